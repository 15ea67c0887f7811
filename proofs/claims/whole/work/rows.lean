section
-- ===== PART A: goes FIRST, ahead of the names: the tables' words, and 'selects' of the private methods out of them =====
/-- a private method of a class that the tables say can be made, by its rows of tables_1 -/
def lw_okq (q : MethodName × Nat) : Prop := (q.1.cls ≠ "java/lang/invoke/MethodHandle" ∧ q.1.cls ≠ "java/lang/invoke/VarHandle") ∧ Cond.instantiable q.1.cls q.2 ∈ tables_1 ∧ Cond.privateMethod q.1 ∈ tables_1 ∧ Cond.instanceMethod q.1 ∈ tables_1
theorem lw_p0 : lw_okq (⟨"java/util/ArrayList", "add", "(Ljava/lang/Object;[Ljava/lang/Object;I)V"⟩, 3) := ⟨⟨by decide +kernel, by decide +kernel⟩, List.mem_of_getElem? (i := 73) (by decide +kernel), List.mem_of_getElem? (i := 270) (by decide +kernel), List.mem_of_getElem? (i := 271) (by decide +kernel)⟩
theorem lw_p1 : lw_okq (⟨"java/util/ArrayList", "grow", "()[Ljava/lang/Object;"⟩, 3) := ⟨⟨by decide +kernel, by decide +kernel⟩, List.mem_of_getElem? (i := 73) (by decide +kernel), List.mem_of_getElem? (i := 274) (by decide +kernel), List.mem_of_getElem? (i := 275) (by decide +kernel)⟩
theorem lw_p2 : lw_okq (⟨"java/util/ArrayList", "grow", "(I)[Ljava/lang/Object;"⟩, 3) := ⟨⟨by decide +kernel, by decide +kernel⟩, List.mem_of_getElem? (i := 73) (by decide +kernel), List.mem_of_getElem? (i := 278) (by decide +kernel), List.mem_of_getElem? (i := 279) (by decide +kernel)⟩
theorem lw_p3 : lw_okq (⟨"TagField$Frame", "readTold", "(LTagField$Row;II)V"⟩, 5) := ⟨⟨by decide +kernel, by decide +kernel⟩, List.mem_of_getElem? (i := 99) (by decide +kernel), List.mem_of_getElem? (i := 444) (by decide +kernel), List.mem_of_getElem? (i := 445) (by decide +kernel)⟩
theorem lw_p4 : lw_okq (⟨"TagField$Frame", "kindOfCommand", "(II)LTagField$Kind;"⟩, 5) := ⟨⟨by decide +kernel, by decide +kernel⟩, List.mem_of_getElem? (i := 99) (by decide +kernel), List.mem_of_getElem? (i := 451) (by decide +kernel), List.mem_of_getElem? (i := 452) (by decide +kernel)⟩
theorem lw_p5 : lw_okq (⟨"TagField$Tag", "becomeReady", "(I)LTagField$Reply;"⟩, 5) := ⟨⟨by decide +kernel, by decide +kernel⟩, List.mem_of_getElem? (i := 192) (by decide +kernel), List.mem_of_getElem? (i := 467) (by decide +kernel), List.mem_of_getElem? (i := 468) (by decide +kernel)⟩
theorem lw_p6 : lw_okq (⟨"TagField$Tag", "become", "(ILTagField$Reply;)LTagField$Reply;"⟩, 5) := ⟨⟨by decide +kernel, by decide +kernel⟩, List.mem_of_getElem? (i := 192) (by decide +kernel), List.mem_of_getElem? (i := 473) (by decide +kernel), List.mem_of_getElem? (i := 474) (by decide +kernel)⟩
theorem lw_p7 : lw_okq (⟨"TagField$Tag", "hearReady", "(LTagField$Frame;)LTagField$Reply;"⟩, 5) := ⟨⟨by decide +kernel, by decide +kernel⟩, List.mem_of_getElem? (i := 192) (by decide +kernel), List.mem_of_getElem? (i := 479) (by decide +kernel), List.mem_of_getElem? (i := 480) (by decide +kernel)⟩
theorem lw_p8 : lw_okq (⟨"TagField$Tag", "showsWhatIsTold", "(LTagField$Frame;)Z"⟩, 5) := ⟨⟨by decide +kernel, by decide +kernel⟩, List.mem_of_getElem? (i := 192) (by decide +kernel), List.mem_of_getElem? (i := 484) (by decide +kernel), List.mem_of_getElem? (i := 485) (by decide +kernel)⟩
theorem lw_p9 : lw_okq (⟨"TagField$Tag", "becomeChosen", "()LTagField$Reply;"⟩, 5) := ⟨⟨by decide +kernel, by decide +kernel⟩, List.mem_of_getElem? (i := 192) (by decide +kernel), List.mem_of_getElem? (i := 491) (by decide +kernel), List.mem_of_getElem? (i := 492) (by decide +kernel)⟩
theorem lw_p10 : lw_okq (⟨"TagField$Tag", "goBack", "()LTagField$Reply;"⟩, 5) := ⟨⟨by decide +kernel, by decide +kernel⟩, List.mem_of_getElem? (i := 192) (by decide +kernel), List.mem_of_getElem? (i := 499) (by decide +kernel), List.mem_of_getElem? (i := 500) (by decide +kernel)⟩
theorem lw_p11 : lw_okq (⟨"TagField$Tag", "hearActive", "(LTagField$Frame;)LTagField$Reply;"⟩, 5) := ⟨⟨by decide +kernel, by decide +kernel⟩, List.mem_of_getElem? (i := 192) (by decide +kernel), List.mem_of_getElem? (i := 503) (by decide +kernel), List.mem_of_getElem? (i := 504) (by decide +kernel)⟩
theorem lw_p12 : lw_okq (⟨"TagField$Reader", "searchLevel", "(ILTagField$Air;)Z"⟩, 7) := ⟨⟨by decide +kernel, by decide +kernel⟩, List.mem_of_getElem? (i := 142) (by decide +kernel), List.mem_of_getElem? (i := 580) (by decide +kernel), List.mem_of_getElem? (i := 581) (by decide +kernel)⟩
theorem lw_p13 : lw_okq (⟨"TagField$Reader", "layOutSearch", "(I)V"⟩, 7) := ⟨⟨by decide +kernel, by decide +kernel⟩, List.mem_of_getElem? (i := 142) (by decide +kernel), List.mem_of_getElem? (i := 584) (by decide +kernel), List.mem_of_getElem? (i := 585) (by decide +kernel)⟩
theorem lw_p14 : lw_okq (⟨"TagField$Reader", "knownByte", "(I)I"⟩, 7) := ⟨⟨by decide +kernel, by decide +kernel⟩, List.mem_of_getElem? (i := 142) (by decide +kernel), List.mem_of_getElem? (i := 590) (by decide +kernel), List.mem_of_getElem? (i := 591) (by decide +kernel)⟩
theorem lw_p15 : lw_okq (⟨"TagField$Reader", "learn", "()V"⟩, 7) := ⟨⟨by decide +kernel, by decide +kernel⟩, List.mem_of_getElem? (i := 142) (by decide +kernel), List.mem_of_getElem? (i := 594) (by decide +kernel), List.mem_of_getElem? (i := 595) (by decide +kernel)⟩
def lw_privs_1 : List (MethodName × Nat) := [(⟨"java/util/ArrayList", "add", "(Ljava/lang/Object;[Ljava/lang/Object;I)V"⟩, 3), (⟨"java/util/ArrayList", "grow", "()[Ljava/lang/Object;"⟩, 3), (⟨"java/util/ArrayList", "grow", "(I)[Ljava/lang/Object;"⟩, 3), (⟨"TagField$Frame", "readTold", "(LTagField$Row;II)V"⟩, 5), (⟨"TagField$Frame", "kindOfCommand", "(II)LTagField$Kind;"⟩, 5), (⟨"TagField$Tag", "becomeReady", "(I)LTagField$Reply;"⟩, 5), (⟨"TagField$Tag", "become", "(ILTagField$Reply;)LTagField$Reply;"⟩, 5), (⟨"TagField$Tag", "hearReady", "(LTagField$Frame;)LTagField$Reply;"⟩, 5), (⟨"TagField$Tag", "showsWhatIsTold", "(LTagField$Frame;)Z"⟩, 5), (⟨"TagField$Tag", "becomeChosen", "()LTagField$Reply;"⟩, 5), (⟨"TagField$Tag", "goBack", "()LTagField$Reply;"⟩, 5), (⟨"TagField$Tag", "hearActive", "(LTagField$Frame;)LTagField$Reply;"⟩, 5), (⟨"TagField$Reader", "searchLevel", "(ILTagField$Air;)Z"⟩, 7), (⟨"TagField$Reader", "layOutSearch", "(I)V"⟩, 7), (⟨"TagField$Reader", "knownByte", "(I)I"⟩, 7), (⟨"TagField$Reader", "learn", "()V"⟩, 7)]
theorem lw_r1 : ∀ q ∈ lw_privs_1, lw_okq q := List.forall_mem_cons.mpr ⟨lw_p0, List.forall_mem_cons.mpr ⟨lw_p1, List.forall_mem_cons.mpr ⟨lw_p2, List.forall_mem_cons.mpr ⟨lw_p3, List.forall_mem_cons.mpr ⟨lw_p4, List.forall_mem_cons.mpr ⟨lw_p5, List.forall_mem_cons.mpr ⟨lw_p6, List.forall_mem_cons.mpr ⟨lw_p7, List.forall_mem_cons.mpr ⟨lw_p8, List.forall_mem_cons.mpr ⟨lw_p9, List.forall_mem_cons.mpr ⟨lw_p10, List.forall_mem_cons.mpr ⟨lw_p11, List.forall_mem_cons.mpr ⟨lw_p12, List.forall_mem_cons.mpr ⟨lw_p13, List.forall_mem_cons.mpr ⟨lw_p14, List.forall_mem_cons.mpr ⟨lw_p15, fun _ h => absurd h List.not_mem_nil⟩⟩⟩⟩⟩⟩⟩⟩⟩⟩⟩⟩⟩⟩⟩⟩
theorem lw_p16 : lw_okq (⟨"TagField$Reader", "choose", "(ILTagField$Air;)Z"⟩, 7) := ⟨⟨by decide +kernel, by decide +kernel⟩, List.mem_of_getElem? (i := 142) (by decide +kernel), List.mem_of_getElem? (i := 599) (by decide +kernel), List.mem_of_getElem? (i := 600) (by decide +kernel)⟩
theorem lw_p17 : lw_okq (⟨"TagField$Reader", "keepBytes", "(I)V"⟩, 7) := ⟨⟨by decide +kernel, by decide +kernel⟩, List.mem_of_getElem? (i := 142) (by decide +kernel), List.mem_of_getElem? (i := 609) (by decide +kernel), List.mem_of_getElem? (i := 610) (by decide +kernel)⟩
theorem lw_p18 : lw_okq (⟨"TagField$Reader", "halt", "(LTagField$Air;)V"⟩, 7) := ⟨⟨by decide +kernel, by decide +kernel⟩, List.mem_of_getElem? (i := 142) (by decide +kernel), List.mem_of_getElem? (i := 613) (by decide +kernel), List.mem_of_getElem? (i := 614) (by decide +kernel)⟩
theorem lw_p19 : lw_okq (⟨"TagFieldModel", "byteFrom", "(IIII)I"⟩, 29) := ⟨⟨by decide +kernel, by decide +kernel⟩, List.mem_of_getElem? (i := 629) (by decide +kernel), List.mem_of_getElem? (i := 728) (by decide +kernel), List.mem_of_getElem? (i := 729) (by decide +kernel)⟩
theorem lw_p20 : lw_okq (⟨"TagFieldModel", "show", "(IIIIII)V"⟩, 29) := ⟨⟨by decide +kernel, by decide +kernel⟩, List.mem_of_getElem? (i := 629) (by decide +kernel), List.mem_of_getElem? (i := 732) (by decide +kernel), List.mem_of_getElem? (i := 733) (by decide +kernel)⟩
theorem lw_p21 : lw_okq (⟨"TagFieldModel", "isTag", "(I)Z"⟩, 29) := ⟨⟨by decide +kernel, by decide +kernel⟩, List.mem_of_getElem? (i := 629) (by decide +kernel), List.mem_of_getElem? (i := 740) (by decide +kernel), List.mem_of_getElem? (i := 741) (by decide +kernel)⟩
theorem lw_p22 : lw_okq (⟨"TagFieldModel", "type", "(I)I"⟩, 29) := ⟨⟨by decide +kernel, by decide +kernel⟩, List.mem_of_getElem? (i := 629) (by decide +kernel), List.mem_of_getElem? (i := 756) (by decide +kernel), List.mem_of_getElem? (i := 757) (by decide +kernel)⟩
theorem lw_p23 : lw_okq (⟨"TagFieldModel", "send", "()V"⟩, 29) := ⟨⟨by decide +kernel, by decide +kernel⟩, List.mem_of_getElem? (i := 629) (by decide +kernel), List.mem_of_getElem? (i := 778) (by decide +kernel), List.mem_of_getElem? (i := 779) (by decide +kernel)⟩
theorem lw_p24 : lw_okq (⟨"TagFieldModel", "understand", "()V"⟩, 29) := ⟨⟨by decide +kernel, by decide +kernel⟩, List.mem_of_getElem? (i := 629) (by decide +kernel), List.mem_of_getElem? (i := 782) (by decide +kernel), List.mem_of_getElem? (i := 783) (by decide +kernel)⟩
theorem lw_p25 : lw_okq (⟨"TagFieldModel", "hear", "(I)V"⟩, 29) := ⟨⟨by decide +kernel, by decide +kernel⟩, List.mem_of_getElem? (i := 629) (by decide +kernel), List.mem_of_getElem? (i := 786) (by decide +kernel), List.mem_of_getElem? (i := 787) (by decide +kernel)⟩
theorem lw_p26 : lw_okq (⟨"TagFieldModel", "begin", "(II)V"⟩, 29) := ⟨⟨by decide +kernel, by decide +kernel⟩, List.mem_of_getElem? (i := 629) (by decide +kernel), List.mem_of_getElem? (i := 790) (by decide +kernel), List.mem_of_getElem? (i := 791) (by decide +kernel)⟩
theorem lw_p27 : lw_okq (⟨"TagFieldModel", "say", "(I)V"⟩, 29) := ⟨⟨by decide +kernel, by decide +kernel⟩, List.mem_of_getElem? (i := 629) (by decide +kernel), List.mem_of_getElem? (i := 794) (by decide +kernel), List.mem_of_getElem? (i := 795) (by decide +kernel)⟩
theorem lw_p28 : lw_okq (⟨"TagFieldModel", "shows", "(I)Z"⟩, 29) := ⟨⟨by decide +kernel, by decide +kernel⟩, List.mem_of_getElem? (i := 629) (by decide +kernel), List.mem_of_getElem? (i := 798) (by decide +kernel), List.mem_of_getElem? (i := 799) (by decide +kernel)⟩
theorem lw_p29 : lw_okq (⟨"TagFieldModel", "sayRest", "(I)V"⟩, 29) := ⟨⟨by decide +kernel, by decide +kernel⟩, List.mem_of_getElem? (i := 629) (by decide +kernel), List.mem_of_getElem? (i := 802) (by decide +kernel), List.mem_of_getElem? (i := 803) (by decide +kernel)⟩
theorem lw_p30 : lw_okq (⟨"TagFieldModel", "levels", "(I)I"⟩, 29) := ⟨⟨by decide +kernel, by decide +kernel⟩, List.mem_of_getElem? (i := 629) (by decide +kernel), List.mem_of_getElem? (i := 806) (by decide +kernel), List.mem_of_getElem? (i := 807) (by decide +kernel)⟩
theorem lw_p31 : lw_okq (⟨"TagFieldModel", "sayChecked", "(I)V"⟩, 29) := ⟨⟨by decide +kernel, by decide +kernel⟩, List.mem_of_getElem? (i := 629) (by decide +kernel), List.mem_of_getElem? (i := 810) (by decide +kernel), List.mem_of_getElem? (i := 811) (by decide +kernel)⟩
def lw_privs_2 : List (MethodName × Nat) := [(⟨"TagField$Reader", "choose", "(ILTagField$Air;)Z"⟩, 7), (⟨"TagField$Reader", "keepBytes", "(I)V"⟩, 7), (⟨"TagField$Reader", "halt", "(LTagField$Air;)V"⟩, 7), (⟨"TagFieldModel", "byteFrom", "(IIII)I"⟩, 29), (⟨"TagFieldModel", "show", "(IIIIII)V"⟩, 29), (⟨"TagFieldModel", "isTag", "(I)Z"⟩, 29), (⟨"TagFieldModel", "type", "(I)I"⟩, 29), (⟨"TagFieldModel", "send", "()V"⟩, 29), (⟨"TagFieldModel", "understand", "()V"⟩, 29), (⟨"TagFieldModel", "hear", "(I)V"⟩, 29), (⟨"TagFieldModel", "begin", "(II)V"⟩, 29), (⟨"TagFieldModel", "say", "(I)V"⟩, 29), (⟨"TagFieldModel", "shows", "(I)Z"⟩, 29), (⟨"TagFieldModel", "sayRest", "(I)V"⟩, 29), (⟨"TagFieldModel", "levels", "(I)I"⟩, 29), (⟨"TagFieldModel", "sayChecked", "(I)V"⟩, 29)]
theorem lw_r2 : ∀ q ∈ lw_privs_2, lw_okq q := List.forall_mem_cons.mpr ⟨lw_p16, List.forall_mem_cons.mpr ⟨lw_p17, List.forall_mem_cons.mpr ⟨lw_p18, List.forall_mem_cons.mpr ⟨lw_p19, List.forall_mem_cons.mpr ⟨lw_p20, List.forall_mem_cons.mpr ⟨lw_p21, List.forall_mem_cons.mpr ⟨lw_p22, List.forall_mem_cons.mpr ⟨lw_p23, List.forall_mem_cons.mpr ⟨lw_p24, List.forall_mem_cons.mpr ⟨lw_p25, List.forall_mem_cons.mpr ⟨lw_p26, List.forall_mem_cons.mpr ⟨lw_p27, List.forall_mem_cons.mpr ⟨lw_p28, List.forall_mem_cons.mpr ⟨lw_p29, List.forall_mem_cons.mpr ⟨lw_p30, List.forall_mem_cons.mpr ⟨lw_p31, fun _ h => absurd h List.not_mem_nil⟩⟩⟩⟩⟩⟩⟩⟩⟩⟩⟩⟩⟩⟩⟩⟩
theorem lw_p32 : lw_okq (⟨"TagFieldModel", "back", "(I)V"⟩, 29) := ⟨⟨by decide +kernel, by decide +kernel⟩, List.mem_of_getElem? (i := 629) (by decide +kernel), List.mem_of_getElem? (i := 814) (by decide +kernel), List.mem_of_getElem? (i := 815) (by decide +kernel)⟩
theorem lw_p33 : lw_okq (⟨"TagFieldModel", "sendShort", "(I)V"⟩, 29) := ⟨⟨by decide +kernel, by decide +kernel⟩, List.mem_of_getElem? (i := 629) (by decide +kernel), List.mem_of_getElem? (i := 830) (by decide +kernel), List.mem_of_getElem? (i := 831) (by decide +kernel)⟩
theorem lw_p34 : lw_okq (⟨"TagFieldModel", "knows", "(I)Z"⟩, 29) := ⟨⟨by decide +kernel, by decide +kernel⟩, List.mem_of_getElem? (i := 629) (by decide +kernel), List.mem_of_getElem? (i := 834) (by decide +kernel), List.mem_of_getElem? (i := 835) (by decide +kernel)⟩
theorem lw_p35 : lw_okq (⟨"TagFieldModel", "sendSearch", "(I)V"⟩, 29) := ⟨⟨by decide +kernel, by decide +kernel⟩, List.mem_of_getElem? (i := 629) (by decide +kernel), List.mem_of_getElem? (i := 838) (by decide +kernel), List.mem_of_getElem? (i := 839) (by decide +kernel)⟩
theorem lw_p36 : lw_okq (⟨"TagFieldModel", "put", "(I)V"⟩, 29) := ⟨⟨by decide +kernel, by decide +kernel⟩, List.mem_of_getElem? (i := 629) (by decide +kernel), List.mem_of_getElem? (i := 842) (by decide +kernel), List.mem_of_getElem? (i := 843) (by decide +kernel)⟩
theorem lw_p37 : lw_okq (⟨"TagFieldModel", "knownByte", "(I)I"⟩, 29) := ⟨⟨by decide +kernel, by decide +kernel⟩, List.mem_of_getElem? (i := 629) (by decide +kernel), List.mem_of_getElem? (i := 846) (by decide +kernel), List.mem_of_getElem? (i := 847) (by decide +kernel)⟩
theorem lw_p38 : lw_okq (⟨"TagFieldModel", "chooses", "(I)I"⟩, 29) := ⟨⟨by decide +kernel, by decide +kernel⟩, List.mem_of_getElem? (i := 629) (by decide +kernel), List.mem_of_getElem? (i := 850) (by decide +kernel), List.mem_of_getElem? (i := 851) (by decide +kernel)⟩
theorem lw_p39 : lw_okq (⟨"TagFieldModel", "putChecked", "()V"⟩, 29) := ⟨⟨by decide +kernel, by decide +kernel⟩, List.mem_of_getElem? (i := 629) (by decide +kernel), List.mem_of_getElem? (i := 854) (by decide +kernel), List.mem_of_getElem? (i := 855) (by decide +kernel)⟩
def lw_privs_3 : List (MethodName × Nat) := [(⟨"TagFieldModel", "back", "(I)V"⟩, 29), (⟨"TagFieldModel", "sendShort", "(I)V"⟩, 29), (⟨"TagFieldModel", "knows", "(I)Z"⟩, 29), (⟨"TagFieldModel", "sendSearch", "(I)V"⟩, 29), (⟨"TagFieldModel", "put", "(I)V"⟩, 29), (⟨"TagFieldModel", "knownByte", "(I)I"⟩, 29), (⟨"TagFieldModel", "chooses", "(I)I"⟩, 29), (⟨"TagFieldModel", "putChecked", "()V"⟩, 29)]
theorem lw_r3 : ∀ q ∈ lw_privs_3, lw_okq q := List.forall_mem_cons.mpr ⟨lw_p32, List.forall_mem_cons.mpr ⟨lw_p33, List.forall_mem_cons.mpr ⟨lw_p34, List.forall_mem_cons.mpr ⟨lw_p35, List.forall_mem_cons.mpr ⟨lw_p36, List.forall_mem_cons.mpr ⟨lw_p37, List.forall_mem_cons.mpr ⟨lw_p38, List.forall_mem_cons.mpr ⟨lw_p39, fun _ h => absurd h List.not_mem_nil⟩⟩⟩⟩⟩⟩⟩⟩
def lw_privs : List (MethodName × Nat) := lw_privs_1 ++ (lw_privs_2 ++ (lw_privs_3))
def lw_tbl : List Cond := k2_sels lw_privs ++ tables_1
theorem lw_privs_ok : ∀ q ∈ lw_privs, lw_okq q := by
  show ∀ q ∈ lw_privs_1 ++ (lw_privs_2 ++ (lw_privs_3)), lw_okq q
  exact List.forall_mem_append.mpr ⟨lw_r1, List.forall_mem_append.mpr ⟨lw_r2, lw_r3⟩⟩
end
section
def RX0 : String := "TagField$1"
def RX1 : String := "TagField$Air"
def TX1 : u_T := fun k => match k with
  | 0 => ("TagField$Air", "tags", "Ljava/util/ArrayList;", true)
  | 1 => ("TagField$Air", "frame", "LTagField$Frame;", true)
  | 2 => ("TagField$Air", "on", "Z", false)
  | _ => ("TagField$Air", "sent", "I", false)
def tyX1 : Nat → FieldType := fun k => match k with
  | 0 => .object "java/util/ArrayList"
  | 1 => .object "TagField$Frame"
  | 2 => .boolean
  | _ => .int
theorem nmX1 : ∀ a, a < 4 → ∀ b, b < 4 → a ≠ b → (TX1 a).2.1 ≠ (TX1 b).2.1 := by decide +kernel
theorem tyX1_ok : ∀ k, k < 4 → parseFieldDescriptor (TX1 k).2.2.1 = some (tyX1 k) := by decide +kernel
abbrev cX1_init : ByteArray := prog_3_method_1_code
def yX1_init : MethodName := ⟨RX1, "<init>", "()V"⟩
abbrev cX1_count : ByteArray := prog_3_method_2_code
def yX1_count : MethodName := ⟨RX1, "count", "()I"⟩
abbrev cX1_knows : ByteArray := prog_3_method_3_code
def yX1_knows : MethodName := ⟨RX1, "knows", "(I)Z"⟩
abbrev cX1_knowsNumberOf : ByteArray := prog_3_method_4_code
def yX1_knowsNumberOf : MethodName := ⟨RX1, "knowsNumberOf", "(LTagField$Tag;)Z"⟩
abbrev cX1_bring : ByteArray := prog_3_method_5_code
def yX1_bring : MethodName := ⟨RX1, "bring", "(LTagField$Tag;)I"⟩
abbrev cX1_move : ByteArray := prog_3_method_6_code
def yX1_move : MethodName := ⟨RX1, "move", "(IZ)I"⟩
abbrev cX1_turn : ByteArray := prog_3_method_7_code
def yX1_turn : MethodName := ⟨RX1, "turn", "(Z)I"⟩
abbrev cX1_stateOf : ByteArray := prog_3_method_8_code
def yX1_stateOf : MethodName := ⟨RX1, "stateOf", "(I)I"⟩
abbrev cX1_send : ByteArray := prog_3_method_9_code
def yX1_send : MethodName := ⟨RX1, "send", "(LTagField$Row;LTagField$Answer;)I"⟩
def RX2 : String := "TagField$Answer"
def TX2 : u_T := fun k => match k with
  | 0 => ("TagField$Answer", "ones", "J", false)
  | 1 => ("TagField$Answer", "zeros", "J", false)
  | _ => ("TagField$Answer", "length", "I", false)
def tyX2 : Nat → FieldType := fun k => match k with
  | 0 => .long
  | 1 => .long
  | _ => .int
theorem nmX2 : ∀ a, a < 3 → ∀ b, b < 3 → a ≠ b → (TX2 a).2.1 ≠ (TX2 b).2.1 := by decide +kernel
theorem tyX2_ok : ∀ k, k < 3 → parseFieldDescriptor (TX2 k).2.2.1 = some (tyX2 k) := by decide +kernel
abbrev cX2_init : ByteArray := prog_4_method_1_code
def yX2_init : MethodName := ⟨RX2, "<init>", "()V"⟩
abbrev cX2_clear : ByteArray := prog_4_method_2_code
def yX2_clear : MethodName := ⟨RX2, "clear", "()V"⟩
abbrev cX2_lay : ByteArray := prog_4_method_3_code
def yX2_lay : MethodName := ⟨RX2, "lay", "(JI)V"⟩
abbrev cX2_bitAt : ByteArray := prog_4_method_4_code
def yX2_bitAt : MethodName := ⟨RX2, "bitAt", "(I)I"⟩
abbrev cX2_beginsWith : ByteArray := prog_4_method_5_code
def yX2_beginsWith : MethodName := ⟨RX2, "beginsWith", "(I)Z"⟩
def RX3 : String := "TagField$Code"
abbrev cX3_octetsOf : ByteArray := prog_5_method_2_code
def yX3_octetsOf : MethodName := ⟨RX3, "octetsOf", "(JI)J"⟩
abbrev cX3_checkStep : ByteArray := prog_5_method_3_code
def yX3_checkStep : MethodName := ⟨RX3, "checkStep", "(II)I"⟩
abbrev cX3_checkedOctetsOf : ByteArray := prog_5_method_4_code
def yX3_checkedOctetsOf : MethodName := ⟨RX3, "checkedOctetsOf", "(JI)J"⟩
def RX4 : String := "TagField$Frame"
def TX4 : u_T := fun k => match k with
  | 0 => ("TagField$Frame", "kind", "LTagField$Kind;", false)
  | 1 => ("TagField$Frame", "level", "I", false)
  | 2 => ("TagField$Frame", "second", "I", false)
  | 3 => ("TagField$Frame", "told", "J", false)
  | _ => ("TagField$Frame", "toldCount", "I", false)
def tyX4 : Nat → FieldType := fun k => match k with
  | 0 => .object "TagField$Kind"
  | 1 => .int
  | 2 => .int
  | 3 => .long
  | _ => .int
theorem nmX4 : ∀ a, a < 5 → ∀ b, b < 5 → a ≠ b → (TX4 a).2.1 ≠ (TX4 b).2.1 := by decide +kernel
theorem tyX4_ok : ∀ k, k < 5 → parseFieldDescriptor (TX4 k).2.2.1 = some (tyX4 k) := by decide +kernel
abbrev cX4_init : ByteArray := prog_6_method_1_code
def yX4_init : MethodName := ⟨RX4, "<init>", "()V"⟩
abbrev cX4_read : ByteArray := prog_6_method_2_code
def yX4_read : MethodName := ⟨RX4, "read", "(LTagField$Row;)V"⟩
abbrev cX4_kindOfShort : ByteArray := prog_6_method_3_code
def yX4_kindOfShort : MethodName := ⟨RX4, "kindOfShort", "(I)LTagField$Kind;"⟩
abbrev cX4_kindOfCommand : ByteArray := prog_6_method_4_code
def yX4_kindOfCommand : MethodName := ⟨RX4, "kindOfCommand", "(II)LTagField$Kind;"⟩
abbrev cX4_readTold : ByteArray := prog_6_method_5_code
def yX4_readTold : MethodName := ⟨RX4, "readTold", "(LTagField$Row;II)V"⟩
abbrev cX4_levelOf : ByteArray := prog_6_method_6_code
def yX4_levelOf : MethodName := ⟨RX4, "levelOf", "(I)I"⟩
abbrev cX4_levelByte : ByteArray := prog_6_method_7_code
def yX4_levelByte : MethodName := ⟨RX4, "levelByte", "(I)I"⟩
def RX5 : String := "TagField$Kind"
def RX6 : String := "TagField$Reader"
def TX6 : u_T := fun k => match k with
  | 0 => ("TagField$Reader", "row", "LTagField$Row;", true)
  | 1 => ("TagField$Reader", "heard", "LTagField$Answer;", true)
  | 2 => ("TagField$Reader", "numbers", "[I", true)
  | 3 => ("TagField$Reader", "sizes", "[I", true)
  | 4 => ("TagField$Reader", "count", "I", false)
  | 5 => ("TagField$Reader", "known", "J", false)
  | _ => ("TagField$Reader", "knownCount", "I", false)
def tyX6 : Nat → FieldType := fun k => match k with
  | 0 => .object "TagField$Row"
  | 1 => .object "TagField$Answer"
  | 2 => .array .int
  | 3 => .array .int
  | 4 => .int
  | 5 => .long
  | _ => .int
theorem nmX6 : ∀ a, a < 7 → ∀ b, b < 7 → a ≠ b → (TX6 a).2.1 ≠ (TX6 b).2.1 := by decide +kernel
theorem tyX6_ok : ∀ k, k < 7 → parseFieldDescriptor (TX6 k).2.2.1 = some (tyX6 k) := by decide +kernel
abbrev cX6_init : ByteArray := prog_8_method_1_code
def yX6_init : MethodName := ⟨RX6, "<init>", "()V"⟩
abbrev cX6_forget : ByteArray := prog_8_method_2_code
def yX6_forget : MethodName := ⟨RX6, "forget", "()V"⟩
abbrev cX6_byteFound : ByteArray := prog_8_method_3_code
def yX6_byteFound : MethodName := ⟨RX6, "byteFound", "(II)I"⟩
abbrev cX6_findOne : ByteArray := prog_8_method_4_code
def yX6_findOne : MethodName := ⟨RX6, "findOne", "(LTagField$Air;)Z"⟩
abbrev cX6_searchLevel : ByteArray := prog_8_method_5_code
def yX6_searchLevel : MethodName := ⟨RX6, "searchLevel", "(ILTagField$Air;)Z"⟩
abbrev cX6_layOutSearch : ByteArray := prog_8_method_6_code
def yX6_layOutSearch : MethodName := ⟨RX6, "layOutSearch", "(I)V"⟩
abbrev cX6_learn : ByteArray := prog_8_method_7_code
def yX6_learn : MethodName := ⟨RX6, "learn", "()V"⟩
abbrev cX6_choose : ByteArray := prog_8_method_8_code
def yX6_choose : MethodName := ⟨RX6, "choose", "(ILTagField$Air;)Z"⟩
abbrev cX6_halt : ByteArray := prog_8_method_9_code
def yX6_halt : MethodName := ⟨RX6, "halt", "(LTagField$Air;)V"⟩
abbrev cX6_knownByte : ByteArray := prog_8_method_10_code
def yX6_knownByte : MethodName := ⟨RX6, "knownByte", "(I)I"⟩
abbrev cX6_keepBytes : ByteArray := prog_8_method_11_code
def yX6_keepBytes : MethodName := ⟨RX6, "keepBytes", "(I)V"⟩
def RX7 : String := "TagField$Reply"
def RX8 : String := "TagField$Row"
def TX8 : u_T := fun k => match k with
  | 0 => ("TagField$Row", "bits", "[I", true)
  | _ => ("TagField$Row", "size", "I", false)
def tyX8 : Nat → FieldType := fun k => match k with
  | 0 => .array .int
  | _ => .int
theorem nmX8 : ∀ a, a < 2 → ∀ b, b < 2 → a ≠ b → (TX8 a).2.1 ≠ (TX8 b).2.1 := by decide +kernel
theorem tyX8_ok : ∀ k, k < 2 → parseFieldDescriptor (TX8 k).2.2.1 = some (tyX8 k) := by decide +kernel
abbrev cX8_init : ByteArray := prog_10_method_1_code
def yX8_init : MethodName := ⟨RX8, "<init>", "(I)V"⟩
abbrev cX8_clear : ByteArray := prog_10_method_2_code
def yX8_clear : MethodName := ⟨RX8, "clear", "()V"⟩
abbrev cX8_hasRoomFor : ByteArray := prog_10_method_3_code
def yX8_hasRoomFor : MethodName := ⟨RX8, "hasRoomFor", "(I)Z"⟩
abbrev cX8_addBits : ByteArray := prog_10_method_4_code
def yX8_addBits : MethodName := ⟨RX8, "addBits", "(II)V"⟩
abbrev cX8_addOctet : ByteArray := prog_10_method_5_code
def yX8_addOctet : MethodName := ⟨RX8, "addOctet", "(I)V"⟩
abbrev cX8_addCheck : ByteArray := prog_10_method_6_code
def yX8_addCheck : MethodName := ⟨RX8, "addCheck", "()V"⟩
abbrev cX8_valueAt : ByteArray := prog_10_method_7_code
def yX8_valueAt : MethodName := ⟨RX8, "valueAt", "(II)I"⟩
abbrev cX8_beginsWithOctets : ByteArray := prog_10_method_8_code
def yX8_beginsWithOctets : MethodName := ⟨RX8, "beginsWithOctets", "(I)Z"⟩
abbrev cX8_checkOf : ByteArray := prog_10_method_9_code
def yX8_checkOf : MethodName := ⟨RX8, "checkOf", "(I)I"⟩
def RX9 : String := "TagField$Tag"
def TX9 : u_T := fun k => match k with
  | 0 => ("TagField$Tag", "levels", "I", true)
  | 1 => ("TagField$Tag", "shown", "[J", true)
  | 2 => ("TagField$Tag", "away", "Z", false)
  | 3 => ("TagField$Tag", "state", "I", false)
  | _ => ("TagField$Tag", "level", "I", false)
def tyX9 : Nat → FieldType := fun k => match k with
  | 0 => .int
  | 1 => .array .long
  | 2 => .boolean
  | 3 => .int
  | _ => .int
theorem nmX9 : ∀ a, a < 5 → ∀ b, b < 5 → a ≠ b → (TX9 a).2.1 ≠ (TX9 b).2.1 := by decide +kernel
theorem tyX9_ok : ∀ k, k < 5 → parseFieldDescriptor (TX9 k).2.2.1 = some (tyX9 k) := by decide +kernel
abbrev cX9_init : ByteArray := prog_11_method_1_code
def yX9_init : MethodName := ⟨RX9, "<init>", "(IIII)V"⟩
abbrev cX9_shownAt : ByteArray := prog_11_method_2_code
def yX9_shownAt : MethodName := ⟨RX9, "shownAt", "(IZIII)J"⟩
abbrev cX9_numberByte : ByteArray := prog_11_method_3_code
def yX9_numberByte : MethodName := ⟨RX9, "numberByte", "(IIII)I"⟩
abbrev cX9_looksUnfinished : ByteArray := prog_11_method_4_code
def yX9_looksUnfinished : MethodName := ⟨RX9, "looksUnfinished", "()Z"⟩
abbrev cX9_hasNumberOf : ByteArray := prog_11_method_5_code
def yX9_hasNumberOf : MethodName := ⟨RX9, "hasNumberOf", "(LTagField$Tag;)Z"⟩
abbrev cX9_move : ByteArray := prog_11_method_6_code
def yX9_move : MethodName := ⟨RX9, "move", "(ZZ)Z"⟩
abbrev cX9_beginAnew : ByteArray := prog_11_method_7_code
def yX9_beginAnew : MethodName := ⟨RX9, "beginAnew", "(Z)V"⟩
abbrev cX9_stateAndLevel : ByteArray := prog_11_method_8_code
def yX9_stateAndLevel : MethodName := ⟨RX9, "stateAndLevel", "()I"⟩
abbrev cX9_hear : ByteArray := prog_11_method_9_code
def yX9_hear : MethodName := ⟨RX9, "hear", "(LTagField$Frame;)LTagField$Reply;"⟩
abbrev cX9_become : ByteArray := prog_11_method_10_code
def yX9_become : MethodName := ⟨RX9, "become", "(ILTagField$Reply;)LTagField$Reply;"⟩
abbrev cX9_becomeReady : ByteArray := prog_11_method_11_code
def yX9_becomeReady : MethodName := ⟨RX9, "becomeReady", "(I)LTagField$Reply;"⟩
abbrev cX9_hearReady : ByteArray := prog_11_method_12_code
def yX9_hearReady : MethodName := ⟨RX9, "hearReady", "(LTagField$Frame;)LTagField$Reply;"⟩
abbrev cX9_showsWhatIsTold : ByteArray := prog_11_method_13_code
def yX9_showsWhatIsTold : MethodName := ⟨RX9, "showsWhatIsTold", "(LTagField$Frame;)Z"⟩
abbrev cX9_becomeChosen : ByteArray := prog_11_method_14_code
def yX9_becomeChosen : MethodName := ⟨RX9, "becomeChosen", "()LTagField$Reply;"⟩
abbrev cX9_hearActive : ByteArray := prog_11_method_15_code
def yX9_hearActive : MethodName := ⟨RX9, "hearActive", "(LTagField$Frame;)LTagField$Reply;"⟩
abbrev cX9_goBack : ByteArray := prog_11_method_16_code
def yX9_goBack : MethodName := ⟨RX9, "goBack", "()LTagField$Reply;"⟩
abbrev cX9_say : ByteArray := prog_11_method_17_code
def yX9_say : MethodName := ⟨RX9, "say", "(LTagField$Reply;LTagField$Frame;LTagField$Answer;)V"⟩
def RX10 : String := "TagField"
def TX10 : u_T := fun k => match k with
  | 0 => ("TagField", "typed", "LTagField$Row;", true)
  | 1 => ("TagField", "latest", "LTagField$Answer;", true)
  | 2 => ("TagField", "air", "LTagField$Air;", true)
  | _ => ("TagField", "reader", "LTagField$Reader;", true)
def tyX10 : Nat → FieldType := fun k => match k with
  | 0 => .object "TagField$Row"
  | 1 => .object "TagField$Answer"
  | 2 => .object "TagField$Air"
  | _ => .object "TagField$Reader"
theorem nmX10 : ∀ a, a < 4 → ∀ b, b < 4 → a ≠ b → (TX10 a).2.1 ≠ (TX10 b).2.1 := by decide +kernel
theorem tyX10_ok : ∀ k, k < 4 → parseFieldDescriptor (TX10 k).2.2.1 = some (tyX10 k) := by decide +kernel
abbrev cX10_init : ByteArray := prog_1_method_1_code
def yX10_init : MethodName := ⟨RX10, "<init>", "()V"⟩
abbrev cX10_tag : ByteArray := prog_1_method_2_code
def yX10_tag : MethodName := ⟨RX10, "tag", "(IIII)I"⟩
abbrev cX10_out : ByteArray := prog_1_method_3_code
def yX10_out : MethodName := ⟨RX10, "out", "(IZ)I"⟩
abbrev cX10_field : ByteArray := prog_1_method_4_code
def yX10_field : MethodName := ⟨RX10, "field", "(Z)I"⟩
abbrev cX10_bits : ByteArray := prog_1_method_5_code
def yX10_bits : MethodName := ⟨RX10, "bits", "(II)I"⟩
abbrev cX10_octet : ByteArray := prog_1_method_6_code
def yX10_octet : MethodName := ⟨RX10, "octet", "(I)I"⟩
abbrev cX10_check : ByteArray := prog_1_method_7_code
def yX10_check : MethodName := ⟨RX10, "check", "()I"⟩
abbrev cX10_go : ByteArray := prog_1_method_8_code
def yX10_go : MethodName := ⟨RX10, "go", "()I"⟩
abbrev cX10_answer : ByteArray := prog_1_method_9_code
def yX10_answer : MethodName := ⟨RX10, "answer", "(I)I"⟩
abbrev cX10_state : ByteArray := prog_1_method_10_code
def yX10_state : MethodName := ⟨RX10, "state", "(I)I"⟩
abbrev cX10_round : ByteArray := prog_1_method_11_code
def yX10_round : MethodName := ⟨RX10, "round", "()I"⟩
abbrev cX10_found : ByteArray := prog_1_method_12_code
def yX10_found : MethodName := ⟨RX10, "found", "(II)I"⟩
abbrev cX10_frames : ByteArray := prog_1_method_13_code
def yX10_frames : MethodName := ⟨RX10, "frames", "()I"⟩
def RX11 : String := "TagFieldModel"
def TX11 : u_T := fun k => match k with
  | 0 => ("TagFieldModel", "tags", "I", false)
  | 1 => ("TagFieldModel", "size", "[I", true)
  | 2 => ("TagFieldModel", "number", "[I", true)
  | 3 => ("TagFieldModel", "gone", "[Z", true)
  | 4 => ("TagFieldModel", "state", "[I", true)
  | 5 => ("TagFieldModel", "level", "[I", true)
  | 6 => ("TagFieldModel", "shown", "[I", true)
  | 7 => ("TagFieldModel", "on", "Z", false)
  | 8 => ("TagFieldModel", "typed", "I", false)
  | 9 => ("TagFieldModel", "typedBits", "[I", true)
  | 10 => ("TagFieldModel", "sent", "I", false)
  | 11 => ("TagFieldModel", "sentBits", "[I", true)
  | 12 => ("TagFieldModel", "sentBytes", "[I", true)
  | 13 => ("TagFieldModel", "kind", "I", false)
  | 14 => ("TagFieldModel", "kindLevel", "I", false)
  | 15 => ("TagFieldModel", "told", "I", false)
  | 16 => ("TagFieldModel", "toldBits", "[I", true)
  | 17 => ("TagFieldModel", "said", "I", false)
  | 18 => ("TagFieldModel", "saidBits", "[I", true)
  | 19 => ("TagFieldModel", "heard", "I", false)
  | 20 => ("TagFieldModel", "heardBits", "[I", true)
  | 21 => ("TagFieldModel", "answered", "I", false)
  | 22 => ("TagFieldModel", "answerBits", "[I", true)
  | 23 => ("TagFieldModel", "frames", "I", false)
  | 24 => ("TagFieldModel", "founds", "I", false)
  | 25 => ("TagFieldModel", "foundSize", "[I", true)
  | 26 => ("TagFieldModel", "foundBytes", "[I", true)
  | 27 => ("TagFieldModel", "known", "I", false)
  | _ => ("TagFieldModel", "knownBits", "[I", true)
def tyX11 : Nat → FieldType := fun k => match k with
  | 0 => .int
  | 1 => .array .int
  | 2 => .array .int
  | 3 => .array .boolean
  | 4 => .array .int
  | 5 => .array .int
  | 6 => .array .int
  | 7 => .boolean
  | 8 => .int
  | 9 => .array .int
  | 10 => .int
  | 11 => .array .int
  | 12 => .array .int
  | 13 => .int
  | 14 => .int
  | 15 => .int
  | 16 => .array .int
  | 17 => .int
  | 18 => .array .int
  | 19 => .int
  | 20 => .array .int
  | 21 => .int
  | 22 => .array .int
  | 23 => .int
  | 24 => .int
  | 25 => .array .int
  | 26 => .array .int
  | 27 => .int
  | _ => .array .int
theorem nmX11 : ∀ a, a < 29 → ∀ b, b < 29 → a ≠ b → (TX11 a).2.1 ≠ (TX11 b).2.1 := by decide +kernel
theorem tyX11_ok : ∀ k, k < 29 → parseFieldDescriptor (TX11 k).2.2.1 = some (tyX11 k) := by decide +kernel
abbrev cX11_init : ByteArray := prog_13_method_1_code
def yX11_init : MethodName := ⟨RX11, "<init>", "()V"⟩
abbrev cX11_byteFrom : ByteArray := prog_13_method_2_code
def yX11_byteFrom : MethodName := ⟨RX11, "byteFrom", "(IIII)I"⟩
abbrev cX11_show : ByteArray := prog_13_method_3_code
def yX11_show : MethodName := ⟨RX11, "show", "(IIIIII)V"⟩
abbrev cX11_tag : ByteArray := prog_13_method_4_code
def yX11_tag : MethodName := ⟨RX11, "tag", "(IIII)I"⟩
abbrev cX11_levels : ByteArray := prog_13_method_5_code
def yX11_levels : MethodName := ⟨RX11, "levels", "(I)I"⟩
abbrev cX11_isTag : ByteArray := prog_13_method_6_code
def yX11_isTag : MethodName := ⟨RX11, "isTag", "(I)Z"⟩
abbrev cX11_out : ByteArray := prog_13_method_7_code
def yX11_out : MethodName := ⟨RX11, "out", "(IZ)I"⟩
abbrev cX11_field : ByteArray := prog_13_method_8_code
def yX11_field : MethodName := ⟨RX11, "field", "(Z)I"⟩
abbrev cX11_bits : ByteArray := prog_13_method_9_code
def yX11_bits : MethodName := ⟨RX11, "bits", "(II)I"⟩
abbrev cX11_parity : ByteArray := prog_13_method_10_code
def yX11_parity : MethodName := ⟨RX11, "parity", "(I)I"⟩
abbrev cX11_type : ByteArray := prog_13_method_11_code
def yX11_type : MethodName := ⟨RX11, "type", "(I)I"⟩
abbrev cX11_octet : ByteArray := prog_13_method_12_code
def yX11_octet : MethodName := ⟨RX11, "octet", "(I)I"⟩
abbrev cX11_read : ByteArray := prog_13_method_13_code
def yX11_read : MethodName := ⟨RX11, "read", "([II)I"⟩
abbrev cX11_checked : ByteArray := prog_13_method_14_code
def yX11_checked : MethodName := ⟨RX11, "checked", "(II)I"⟩
abbrev cX11_check : ByteArray := prog_13_method_15_code
def yX11_check : MethodName := ⟨RX11, "check", "()I"⟩
abbrev cX11_understand : ByteArray := prog_13_method_16_code
def yX11_understand : MethodName := ⟨RX11, "understand", "()V"⟩
abbrev cX11_say : ByteArray := prog_13_method_17_code
def yX11_say : MethodName := ⟨RX11, "say", "(I)V"⟩
abbrev cX11_sayChecked : ByteArray := prog_13_method_18_code
def yX11_sayChecked : MethodName := ⟨RX11, "sayChecked", "(I)V"⟩
abbrev cX11_shows : ByteArray := prog_13_method_19_code
def yX11_shows : MethodName := ⟨RX11, "shows", "(I)Z"⟩
abbrev cX11_sayRest : ByteArray := prog_13_method_20_code
def yX11_sayRest : MethodName := ⟨RX11, "sayRest", "(I)V"⟩
abbrev cX11_back : ByteArray := prog_13_method_21_code
def yX11_back : MethodName := ⟨RX11, "back", "(I)V"⟩
abbrev cX11_begin : ByteArray := prog_13_method_22_code
def yX11_begin : MethodName := ⟨RX11, "begin", "(II)V"⟩
abbrev cX11_hear : ByteArray := prog_13_method_23_code
def yX11_hear : MethodName := ⟨RX11, "hear", "(I)V"⟩
abbrev cX11_send : ByteArray := prog_13_method_24_code
def yX11_send : MethodName := ⟨RX11, "send", "()V"⟩
abbrev cX11_go : ByteArray := prog_13_method_25_code
def yX11_go : MethodName := ⟨RX11, "go", "()I"⟩
abbrev cX11_answer : ByteArray := prog_13_method_26_code
def yX11_answer : MethodName := ⟨RX11, "answer", "(I)I"⟩
abbrev cX11_state : ByteArray := prog_13_method_27_code
def yX11_state : MethodName := ⟨RX11, "state", "(I)I"⟩
abbrev cX11_put : ByteArray := prog_13_method_28_code
def yX11_put : MethodName := ⟨RX11, "put", "(I)V"⟩
abbrev cX11_putChecked : ByteArray := prog_13_method_29_code
def yX11_putChecked : MethodName := ⟨RX11, "putChecked", "()V"⟩
abbrev cX11_sendShort : ByteArray := prog_13_method_30_code
def yX11_sendShort : MethodName := ⟨RX11, "sendShort", "(I)V"⟩
abbrev cX11_knownByte : ByteArray := prog_13_method_31_code
def yX11_knownByte : MethodName := ⟨RX11, "knownByte", "(I)I"⟩
abbrev cX11_sendSearch : ByteArray := prog_13_method_32_code
def yX11_sendSearch : MethodName := ⟨RX11, "sendSearch", "(I)V"⟩
abbrev cX11_knows : ByteArray := prog_13_method_33_code
def yX11_knows : MethodName := ⟨RX11, "knows", "(I)Z"⟩
abbrev cX11_chooses : ByteArray := prog_13_method_34_code
def yX11_chooses : MethodName := ⟨RX11, "chooses", "(I)I"⟩
abbrev cX11_round : ByteArray := prog_13_method_35_code
def yX11_round : MethodName := ⟨RX11, "round", "()I"⟩
abbrev cX11_found : ByteArray := prog_13_method_36_code
def yX11_found : MethodName := ⟨RX11, "found", "(II)I"⟩
abbrev cX11_frames : ByteArray := prog_13_method_37_code
def yX11_frames : MethodName := ⟨RX11, "frames", "()I"⟩
def RJx145de : String := "java/io/Serializable"
def RJx8e188 : String := "java/lang/Cloneable"
def RJx29ce0 : String := "java/lang/Enum"
abbrev cJx29ce0_ordinal_8abf5 : ByteArray := prog_16_method_2_code
def yJx29ce0_ordinal_8abf5 : MethodName := ⟨RJx29ce0, "ordinal", "()I"⟩
def RJ6 : String := "java/lang/Integer"
abbrev cJ6_bitCount_0f7a4 : ByteArray := prog_17_method_49_code
def yJ6_bitCount_0f7a4 : MethodName := ⟨RJ6, "bitCount", "(I)I"⟩
def RJxab1ab : String := "java/lang/Iterable"
def RJ13 : String := "java/lang/Long"
abbrev cJ13_bitCount_95d88 : ByteArray := prog_19_method_50_code
def yJ13_bitCount_95d88 : MethodName := ⟨RJ13, "bitCount", "(J)I"⟩
def RJ9 : String := "java/lang/Math"
abbrev cJ9_max_7cf53 : ByteArray := prog_20_method_65_code
def yJ9_max_7cf53 : MethodName := ⟨RJ9, "max", "(II)I"⟩
abbrev cJ9_min_7cf53 : ByteArray := prog_20_method_69_code
def yJ9_min_7cf53 : MethodName := ⟨RJ9, "min", "(II)I"⟩
def RJ10 : String := "java/lang/System"
def RJxa1e45 : String := "java/util/AbstractCollection"
abbrev cJxa1e45_init_da8c8 : ByteArray := prog_22_method_1_code
def yJxa1e45_init_da8c8 : MethodName := ⟨RJxa1e45, "<init>", "()V"⟩
def RJxc12de : String := "java/util/AbstractList"
abbrev cJxc12de_init_da8c8 : ByteArray := prog_23_method_1_code
def yJxc12de_init_da8c8 : MethodName := ⟨RJxc12de, "<init>", "()V"⟩
def RJx4a65c : String := "java/util/ArrayList"
def TJx4a65c : u_T := fun k => match k with
  | 0 => ("java/util/AbstractList", "modCount", "I", false)
  | 1 => ("java/util/ArrayList", "elementData", "[Ljava/lang/Object;", false)
  | _ => ("java/util/ArrayList", "size", "I", false)
def tyJx4a65c : Nat → FieldType := fun k => match k with
  | 0 => .int
  | 1 => .array (.object "java/lang/Object")
  | _ => .int
theorem nmJx4a65c : ∀ a, a < 3 → ∀ b, b < 3 → a ≠ b → (TJx4a65c a).2.1 ≠ (TJx4a65c b).2.1 := by decide +kernel
theorem tyJx4a65c_ok : ∀ k, k < 3 → parseFieldDescriptor (TJx4a65c k).2.2.1 = some (tyJx4a65c k) := by decide +kernel
abbrev cJx4a65c_init_da8c8 : ByteArray := prog_24_method_2_code
def yJx4a65c_init_da8c8 : MethodName := ⟨RJx4a65c, "<init>", "()V"⟩
abbrev cJx4a65c_grow_92f84 : ByteArray := prog_24_method_6_code
def yJx4a65c_grow_92f84 : MethodName := ⟨RJx4a65c, "grow", "(I)[Ljava/lang/Object;"⟩
abbrev cJx4a65c_grow_d5877 : ByteArray := prog_24_method_7_code
def yJx4a65c_grow_d5877 : MethodName := ⟨RJx4a65c, "grow", "()[Ljava/lang/Object;"⟩
abbrev cJx4a65c_size_8abf5 : ByteArray := prog_24_method_8_code
def yJx4a65c_size_8abf5 : MethodName := ⟨RJx4a65c, "size", "()I"⟩
abbrev cJx4a65c_elementData_915e3 : ByteArray := prog_24_method_18_code
def yJx4a65c_elementData_915e3 : MethodName := ⟨RJx4a65c, "elementData", "(I)Ljava/lang/Object;"⟩
abbrev cJx4a65c_get_915e3 : ByteArray := prog_24_method_20_code
def yJx4a65c_get_915e3 : MethodName := ⟨RJx4a65c, "get", "(I)Ljava/lang/Object;"⟩
abbrev cJx4a65c_add_72be8 : ByteArray := prog_24_method_24_code
def yJx4a65c_add_72be8 : MethodName := ⟨RJx4a65c, "add", "(Ljava/lang/Object;[Ljava/lang/Object;I)V"⟩
abbrev cJx4a65c_add_9ea2d : ByteArray := prog_24_method_25_code
def yJx4a65c_add_9ea2d : MethodName := ⟨RJx4a65c, "add", "(Ljava/lang/Object;)Z"⟩
def RJ7 : String := "java/util/Arrays"
abbrev cJ7_copyOf_1904c : ByteArray := prog_25_method_119_code
def yJ7_copyOf_1904c : MethodName := ⟨RJ7, "copyOf", "([Ljava/lang/Object;I)[Ljava/lang/Object;"⟩
abbrev cJ7_copyOf_6403c : ByteArray := prog_25_method_120_code
def yJ7_copyOf_6403c : MethodName := ⟨RJ7, "copyOf", "([Ljava/lang/Object;ILjava/lang/Class;)[Ljava/lang/Object;"⟩
def RJx5ef63 : String := "java/util/Collection"
def RJxbd725 : String := "java/util/List"
def RJ15 : String := "java/util/Objects"
abbrev cJ15_checkIndex_7cf53 : ByteArray := prog_28_method_17_code
def yJ15_checkIndex_7cf53 : MethodName := ⟨RJ15, "checkIndex", "(II)I"⟩
def RJxf0a74 : String := "java/util/RandomAccess"
def RJxa66e6 : String := "java/util/SequencedCollection"
def RJ8 : String := "jdk/internal/util/ArraysSupport"
abbrev cJ8_newLength_cabcc : ByteArray := prog_31_method_27_code
def yJ8_newLength_cabcc : MethodName := ⟨RJ8, "newLength", "(III)I"⟩
abbrev cJ8_hugeLength_7cf53 : ByteArray := prog_31_method_28_code
def yJ8_hugeLength_7cf53 : MethodName := ⟨RJ8, "hugeLength", "(II)I"⟩
def RJ3 : String := "jdk/internal/util/Preconditions"
abbrev cJ3_checkIndex_8e157 : ByteArray := prog_32_method_11_code
def yJ3_checkIndex_8e157 : MethodName := ⟨RJ3, "checkIndex", "(IILjava/util/function/BiFunction;)I"⟩
def RL : String := "TagFieldLaw"
abbrev cL_law : ByteArray := code
def yL_law : MethodName := ⟨RL, "law", "([I)Z"⟩
-- the classes whose objects the worlds hold
abbrev cls : List vw_C := [(RX1, TX1, 4), (RX2, TX2, 3), (RX4, TX4, 5), (RX6, TX6, 7), (RX8, TX8, 2), (RX9, TX9, 5), (RX10, TX10, 4), (RX11, TX11, 29), (RJx4a65c, TJx4a65c, 3)]
end
section
/-! my own heap words: a world is a partial map of addresses to cells; the heap that the law began with lies below it and stays -/
abbrev hp_M : Type := Nat → Option va_E
def hp_up (μ : hp_M) (a : Nat) (e : va_E) : hp_M := fun q => if q = a then some e else μ q
theorem hp_up_s (μ : hp_M) (a : Nat) (e : va_E) : hp_up μ a e a = some e := if_pos rfl
theorem hp_up_n {μ : hp_M} {a q : Nat} {e : va_E} (h : q ≠ a) : hp_up μ a e q = μ q := if_neg h
theorem hp_up_e {μ : hp_M} {a q : Nat} {e : va_E} (h : q = a) : hp_up μ a e q = some e := if_pos h
/-- classes and slots; the first heap; the classes of arrays; the addresses of constants -/
abbrev hp_X : Type := va_G × Heap × (Nat → ClassId) × (Nat → Nat)
def hp_w (X : hp_X) (cl : List vw_C) (μ : hp_M) (nx : Nat) (H : Heap) (locs : List Loc) : Prop :=
  H.size = nx ∧ X.2.1.size ≤ nx ∧ (∀ q : Nat, q < X.2.1.size → H[q]? = X.2.1[q]?) ∧ (∀ (a : Nat) (e : va_E), μ a = some e → X.2.1.size ≤ a ∧ va_at X.1 cl (a, e) H) ∧ ∀ q ∈ locs, X.2.1.size ≤ q.base
theorem hp_w.lt {X : hp_X} {cl : List vw_C} {μ : hp_M} {nx : Nat} {H : Heap} {locs : List Loc} (h : hp_w X cl μ nx H locs) {a : Nat} {e : va_E} (ha : μ a = some e) : a < nx := by
  have := (h.2.2.2.1 a e ha).2.lt
  rw [h.1] at this
  exact this
theorem hp_w.fresh {X : hp_X} {cl : List vw_C} {μ : hp_M} {nx : Nat} {H : Heap} {locs : List Loc} (h : hp_w X cl μ nx H locs) {a : Nat} (ha : nx ≤ a) : μ a = none := by
  cases hm : μ a with
  | none => rfl
  | some e => exact absurd (h.lt hm) (by omega)
theorem hp_w.set {X : hp_X} {cl : List vw_C} {μ : hp_M} {nx : Nat} {H H1 : Heap} {locs : List Loc} {a k : Nat} {e0 e : va_E} (h : hp_w X cl μ nx H locs) (ha : μ a = some e0) (he : va_at X.1 cl (a, e) H1) (z : H1.size = H.size) (oq : ∀ q : Nat, q ≠ a → H1[q]? = H[q]?) : hp_w X cl (hp_up μ a e) nx H1 (locs ++ [⟨a, k⟩]) := by
  obtain ⟨h1, h2, h3, h4, h5⟩ := h
  have hA := (h4 a e0 ha).1
  refine ⟨z.trans h1, h2, fun q hq => ?_, fun b x hb => ?_, fun q hq => ?_⟩
  · rw [oq q (by omega)]
    exact h3 q hq
  · by_cases hba : b = a
    · subst hba
      rw [hp_up_s] at hb
      cases hb
      exact ⟨hA, he⟩
    · rw [hp_up_n hba] at hb
      exact ⟨(h4 b x hb).1, (h4 b x hb).2.kept (oq b hba)⟩
  · rcases List.mem_append.mp hq with q1 | q1
    · exact h5 q q1
    · rw [List.mem_singleton.mp q1]
      exact hA
theorem hp_w.push {X : hp_X} {cl : List vw_C} {μ : hp_M} {nx : Nat} {H H1 : Heap} {locs : List Loc} {e : va_E} (h : hp_w X cl μ nx H locs) (he : va_at X.1 cl (nx, e) H1) (z : H1.size = nx + 1) (o : ∀ q : Nat, q < nx → H1[q]? = H[q]?) : hp_w X cl (hp_up μ nx e) (nx + 1) H1 locs := by
  have hf := fun b x hb => h.lt (a := b) (e := x) hb
  obtain ⟨h1, h2, h3, h4, h5⟩ := h
  refine ⟨z, by omega, fun q hq => ?_, fun b x hb => ?_, h5⟩
  · rw [o q (by omega)]
    exact h3 q hq
  · by_cases hba : b = nx
    · subst hba
      rw [hp_up_s] at hb
      cases hb
      exact ⟨h2, he⟩
    · rw [hp_up_n hba] at hb
      exact ⟨(h4 b x hb).1, (h4 b x hb).2.kept (o b (hf b x hb))⟩
theorem hp_w.congr {X : hp_X} {cl : List vw_C} {μ μ' : hp_M} {nx : Nat} {H : Heap} {locs : List Loc} (h : hp_w X cl μ nx H locs) (e : μ = μ') : hp_w X cl μ' nx H locs := e ▸ h
/-- cells -/
abbrev hp_i (X : hp_X) (n : Nat) (f : Nat → Int32) : va_E := .inl (X.2.2.1 0, n, .inl f)
abbrev hp_l (X : hp_X) (n : Nat) (f : Nat → Int64) : va_E := .inl (X.2.2.1 1, n, .inr (.inl f))
abbrev hp_q (X : hp_X) (n : Nat) (f : Nat → Option Nat) : va_E := .inl (X.2.2.1 2, n, .inr (.inr (.inr (.inr f))))
abbrev hp_o (ci : Nat) (fs : List Value) : va_E := .inr (ci, fs)
/-- what a field instruction links -/
def hp_F (cl : List vw_C) (s : State) (args : Array Value) (own : String) (index ci k : Nat) : Prop :=
  ∃ (C : String) (T : u_T) (N : Nat) (ref : String), cl[ci]? = some (C, T, N) ∧ k < N ∧ (∀ w ∈ u_ws C T N, w.before args s = true) ∧ ((Cond.fieldLink own index ref (T k).2.1 (T k).2.2.1).before args s = true ∨ ∃ host : String, (Cond.fieldLinkNest own index ref (T k).2.1 (T k).2.2.1 host).before args s = true) ∧ (∀ x, s.fieldFound? (T k).1 (T k).2.1 (T k).2.2.1 = some x → s.fieldFound? ref (T k).2.1 (T k).2.2.1 = some x)
/-- a class's table is a good one -/
def hp_T (T : u_T) (N : Nat) (ty : Nat → FieldType) : Prop := (∀ k, k < N → parseFieldDescriptor (T k).2.2.1 = some (ty k)) ∧ (∀ a, a < N → ∀ b, b < N → a ≠ b → (T a).2.1 ≠ (T b).2.1)
def hp_P (cl : List vw_C) (s : State) (args : Array Value) (own : String) (index ci k : Nat) (ty : FieldType) (fin : Bool) : Prop :=
  ∃ (C : String) (T : u_T) (N : Nat) (ref : String) (ty0 : Nat → FieldType), cl[ci]? = some (C, T, N) ∧ k < N ∧ (∀ w ∈ u_ws C T N, w.before args s = true) ∧ ((Cond.fieldLink own index ref (T k).2.1 (T k).2.2.1).before args s = true ∨ (fin = false ∧ ∃ host : String, (Cond.fieldLinkNest own index ref (T k).2.1 (T k).2.2.1 host).before args s = true)) ∧ (∀ x, s.fieldFound? (T k).1 (T k).2.1 (T k).2.2.1 = some x → s.fieldFound? ref (T k).2.1 (T k).2.2.1 = some x) ∧ (T k).2.2.2 = fin ∧ parseFieldDescriptor (T k).2.2.1 = some ty ∧ hp_T T N ty0 ∧ (fin = true → (T k).1 = own)
section HPA
variable {p : Program} {l : Launch} {e : Env} {R : Room} {s : State} {m : MethodId} {args : Array Value} {below : List Frame} {meth : Method} {c : Code} {H : Heap} {locs : List Loc} {cells slots : Nat} {Q : State → Prop}
variable {cc : ByteArray} {pc : Nat} {ls : Array Slot} {rest : List Value} {X : hp_X} {cl : List vw_C} {a nx : Nat} {tys : List (ClassId × FieldType)} {μ : hp_M} {own : String} {index ci k : Nat} {fs : List Value} {v : Value}
theorem hp_get (hexec : p.tables.exec = Jvm.exec) (hb : c.code = cc) (hown : s.vm.findClass own = some m.cls) (hK : va_K X.1 cl tys s) (hH : hp_w X cl μ nx H locs) (hF : hp_F cl s args own index ci k) (hμ : μ a = some (.inr (ci, fs))) (hv : fs[k]? = some v) (hdg : decode cc pc = .ok (.getfield index, 3))
    (kk : W p l e R s m args below meth c H locs cells slots Q (F0 m (pc + 3) ls (v :: rest))) : W p l e R s m args below meth c H locs cells slots Q (F0 m pc ls (.ref a :: rest)) := by
  obtain ⟨C, T, N, ref, hc, hk, hin, hlk, hsame⟩ := hF
  obtain ⟨r, h1, cell, q1, q2, q3, q4⟩ := (hH.2.2.2.1 a _ hμ).2
  have hr : r = (C, T, N) := Option.some.inj (h1.symm.trans hc)
  subst hr
  obtain ⟨hS, hfc, kC, hkC, hkind⟩ := hK.1 ci _ hc
  obtain ⟨cf, kf, fi, f, hi, hsl⟩ := hS k hk
  have hst := (u_facts hfc hkC (u_lays hin (fun _ h => h) hk) hi).1
  have hsv : cell.slots[f.slot]? = some v := by
    rw [hsl, q4 k hk]
    simp [vp_V, hv]
  rcases hlk with hl | ⟨host, hl⟩
  · exact W.getf hexec hb hown hl (hsame _ hi) hst q1 (by rw [q3]; exact fun h => by cases h) (v := v) hsv rfl rfl hdg kk
  · exact va_Wgetf hexec hb hown hl (hsame _ hi) hst q1 (by rw [q3]; exact fun h => by cases h) (v := v) hsv rfl rfl hdg kk
theorem hp_put (hexec : p.tables.exec = Jvm.exec) (hb : c.code = cc) (hown : s.vm.findClass own = some m.cls) (hK : va_K X.1 cl tys s) (hH : hp_w X cl μ nx H locs) {ty : FieldType} (hF : hp_P cl s args own index ci k ty false) (hμ : μ a = some (.inr (ci, fs))) (hn : narrow ty v = v) (hfit : fits ty v = true) (hl : k < fs.length) (hdg : decode cc pc = .ok (.putfield index, 3))
    (kk : ∀ (H1 : Heap) (locs1 : List Loc) (μ1 : hp_M), μ1 a = some (.inr (ci, fs.set k v)) → (∀ q, q ≠ a → μ1 q = μ q) → hp_w X cl μ1 nx H1 locs1 → W p l e R s m args below meth c H1 locs1 cells slots Q (F0 m (pc + 3) ls rest)) : W p l e R s m args below meth c H locs cells slots Q (F0 m pc ls (v :: .ref a :: rest)) := by
  obtain ⟨C, T, N, ref, ty0, hc, hk, hin, hlk, hsame, hfin, hd, ⟨hty, hnm⟩, -⟩ := hF
  have hap := va_apart (own := own) hin (fun _ h => h) ty0 hty hnm hK hc
  obtain ⟨r, h1, cell, q1, q2, q3, q4⟩ := (hH.2.2.2.1 a _ hμ).2
  have hr : r = (C, T, N) := Option.some.inj (h1.symm.trans hc)
  subst hr
  obtain ⟨hS, hfc, kC, hkC, hkind⟩ := hK.1 ci _ hc
  obtain ⟨cf, kf, fi, f, hi, hsl⟩ := hS k hk
  have hlay := hin _ (u_in_lay hk)
  unfold u_lay at hlay
  rw [if_neg (by rw [hfin]; decide)] at hlay
  have hst := (u_facts hfc hkC (u_lays hin (fun _ h => h) hk) hi).1
  have h6 := u_store hfc hkC hkind hlay hi hd hn hfit
  rcases hlk with hlk | ⟨-, host, hlk⟩
  · refine W.putK hexec hb (f := f) ⟨hown, hlk, ⟨_, _, _, hsame _ hi⟩, hst⟩ (by rw [q2]; exact h6) q1 q3 (by rw [hsl]; exact k2_hasslot (q4 k hk)) rfl rfl hdg fun H' e1 e2 e3 => ?_
    rw [hsl] at e1 ⊢
    exact kk H' _ _ (hp_up_s _ _ _) (fun q h => hp_up_n h) (hH.set hμ ⟨_, hc, t_OB.to (V := updV (vp_V fs) k v) ⟨_, e1, q2, q3, t_set q4 hap hk v⟩ (fun j _ => vp_updV_set hl v j)⟩ e2 e3)
  · refine va_WputK hexec hb (f := f) hown hlk (hsame _ hi) hst (by rw [q2]; exact h6) q1 q3 (by rw [hsl]; exact k2_hasslot (q4 k hk)) rfl rfl hdg fun H' e1 e2 e3 => ?_
    rw [hsl] at e1 ⊢
    exact kk H' _ _ (hp_up_s _ _ _) (fun q h => hp_up_n h) (hH.set hμ ⟨_, hc, t_OB.to (V := updV (vp_V fs) k v) ⟨_, e1, q2, q3, t_set q4 hap hk v⟩ (fun j _ => vp_updV_set hl v j)⟩ e2 e3)
theorem hp_putF (hexec : p.tables.exec = Jvm.exec) (hb : c.code = cc) (hown : s.vm.findClass own = some m.cls) (hK : va_K X.1 cl tys s) (hH : hp_w X cl μ nx H locs) {ty : FieldType} (hF : hp_P cl s args own index ci k ty true) (hin2 : meth.name = "<init>") (hμ : μ a = some (.inr (ci, fs))) (hn : narrow ty v = v) (hfit : fits ty v = true) (hl : k < fs.length) (hdg : decode cc pc = .ok (.putfield index, 3))
    (kk : ∀ (H1 : Heap) (locs1 : List Loc) (μ1 : hp_M), μ1 a = some (.inr (ci, fs.set k v)) → (∀ q, q ≠ a → μ1 q = μ q) → hp_w X cl μ1 nx H1 locs1 → W p l e R s m args below meth c H1 locs1 cells slots Q (F0 m (pc + 3) ls rest)) : W p l e R s m args below meth c H locs cells slots Q (F0 m pc ls (v :: .ref a :: rest)) := by
  obtain ⟨C, T, N, ref, ty0, hc, hk, hin, hlk, hsame, hfin, hd, ⟨hty, hnm⟩, hdecl⟩ := hF
  have hdecl := hdecl rfl
  have hap := va_apart (own := own) hin (fun _ h => h) ty0 hty hnm hK hc
  obtain ⟨r, h1, cell, q1, q2, q3, q4⟩ := (hH.2.2.2.1 a _ hμ).2
  have hr : r = (C, T, N) := Option.some.inj (h1.symm.trans hc)
  subst hr
  obtain ⟨hS, hfc, kC, hkC, hkind⟩ := hK.1 ci _ hc
  obtain ⟨cf, kf, fi, f, hi, hsl⟩ := hS k hk
  have hlay := hin _ (u_in_lay hk)
  unfold u_lay at hlay
  rw [if_pos hfin] at hlay
  have hst := (u_facts hfc hkC (u_lays hin (fun _ h => h) hk) hi).1
  have hcf : m.cls = cf := by
    obtain ⟨_, _, c', _, _, _, -, -, hf', -, -, -, hown2, -⟩ := Cond.laysFinal_spec hlay
    have e1 : c' = cf := by have := hi.symm.trans hf'; simp at this; exact this.1.symm
    rw [hdecl] at hown2
    rw [← e1]; exact Option.some.inj (hown.symm.trans hown2)
  have h6 := u_fits hfc hkC hkind (Or.inr hlay) hi hd hn hfit
  rcases hlk with hlk | ⟨h0, -⟩
  · refine W.putFinK hexec hb hown hlk (hsame _ hi) hst hcf hin2 (by rw [q2]; exact h6) q1 q3 (by rw [hsl]; exact k2_hasslot (q4 k hk)) rfl rfl hdg fun H' e1 e2 e3 => ?_
    rw [hsl] at e1 ⊢
    exact kk H' _ _ (hp_up_s _ _ _) (fun q h => hp_up_n h) (hH.set hμ ⟨_, hc, t_OB.to (V := updV (vp_V fs) k v) ⟨_, e1, q2, q3, t_set q4 hap hk v⟩ (fun j _ => vp_updV_set hl v j)⟩ e2 e3)
  · cases h0
theorem hp_iald (hexec : p.tables.exec = Jvm.exec) (hb : c.code = cc) (hA : ArrOfT s (X.2.2.1 0) .int) (hH : hp_w X cl μ nx H locs) {n : Nat} {f : Nat → Int32} (hμ : μ a = some (hp_i X n f)) {i : Int32} (hin : vp_in i n) (hdg : decode cc pc = .ok (.iaload, 1))
    (kk : W p l e R s m args below meth c H locs cells slots Q (F0 m (pc + 1) ls (.int (f i.toNatClampNeg) :: rest))) : W p l e R s m args below meth c H locs cells slots Q (F0 m pc ls (.int i :: .ref a :: rest)) := by
  have hlt : i.toNatClampNeg < n := Nat.not_le.mp fun q => hin (Or.inr q)
  exact W.iald (v := .int (f i.toNatClampNeg)) hexec hb (hH.2.2.2.1 a _ hμ).2 (hA n (fun j => .int (f j))) (fun q => by cases q) (by show ¬ (i < 0 ∨ (arrV _ _ _).slots.size ≤ _); rw [arrV_size]; exact hin) (by show (arrV _ _ _).slots[_]? = _; rw [arrV_read _ _ hlt]) rfl rfl hdg kk
theorem hp_lald (hexec : p.tables.exec = Jvm.exec) (hb : c.code = cc) (hA : ArrOfT s (X.2.2.1 1) .long) (hH : hp_w X cl μ nx H locs) {n : Nat} {f : Nat → Int64} (hμ : μ a = some (hp_l X n f)) {i : Int32} (hin : vp_in i n) (hdg : decode cc pc = .ok (.laload, 1))
    (kk : W p l e R s m args below meth c H locs cells slots Q (F0 m (pc + 1) ls (.long (f i.toNatClampNeg) :: rest))) : W p l e R s m args below meth c H locs cells slots Q (F0 m pc ls (.int i :: .ref a :: rest)) := by
  have hlt : i.toNatClampNeg < n := Nat.not_le.mp fun q => hin (Or.inr q)
  exact W.lald (v := .long (f i.toNatClampNeg)) hexec hb (hH.2.2.2.1 a _ hμ).2 (hA n (fun j => .long (f j))) (fun q => by cases q) (by show ¬ (i < 0 ∨ (arrV _ _ _).slots.size ≤ _); rw [arrV_size]; exact hin) (by show (arrV _ _ _).slots[_]? = _; rw [arrV_read _ _ hlt]) rfl rfl hdg kk
theorem hp_aald (hexec : p.tables.exec = Jvm.exec) (hb : c.code = cc) {C : String} (hA : ArrOfT s (X.2.2.1 2) (.object C)) (hH : hp_w X cl μ nx H locs) {n : Nat} {f : Nat → Option Nat} (hμ : μ a = some (hp_q X n f)) {i : Int32} (hin : vp_in i n) (hdg : decode cc pc = .ok (.aaload, 1))
    (kk : W p l e R s m args below meth c H locs cells slots Q (F0 m (pc + 1) ls (va_rf (f i.toNatClampNeg) :: rest))) : W p l e R s m args below meth c H locs cells slots Q (F0 m pc ls (.int i :: .ref a :: rest)) := by
  have hlt : i.toNatClampNeg < n := Nat.not_le.mp fun q => hin (Or.inr q)
  exact W.aald (v := va_rf (f i.toNatClampNeg)) (ty := .object C) hexec hb (hH.2.2.2.1 a _ hμ).2 (hA n (fun j => va_rf (f j))) rfl (fun q => by cases q) (by show ¬ (i < 0 ∨ (arrV _ _ _).slots.size ≤ _); rw [arrV_size]; exact hin) (by show (arrV _ _ _).slots[_]? = _; rw [arrV_read _ _ hlt]) rfl rfl hdg kk
theorem hp_iast (hexec : p.tables.exec = Jvm.exec) (hb : c.code = cc) (hA : ArrOfT s (X.2.2.1 0) .int) (hH : hp_w X cl μ nx H locs) {n : Nat} {f : Nat → Int32} (hμ : μ a = some (hp_i X n f)) {i x : Int32} (hin : vp_in i n) (hdg : decode cc pc = .ok (.iastore, 1))
    (kk : ∀ (H1 : Heap) (locs1 : List Loc) (μ1 : hp_M), μ1 a = some (hp_i X n (upd f i.toNatClampNeg x)) → (∀ q, q ≠ a → μ1 q = μ q) → hp_w X cl μ1 nx H1 locs1 → W p l e R s m args below meth c H1 locs1 cells slots Q (F0 m (pc + 1) ls rest)) : W p l e R s m args below meth c H locs cells slots Q (F0 m pc ls (.int x :: .int i :: .ref a :: rest)) := by
  refine W.iast hexec hb (hH.2.2.2.1 a _ hμ).2 (hA n (fun j => .int (f j))) (fun q => by cases q) (by show ¬ (i < 0 ∨ (arrV _ _ _).slots.size ≤ _); rw [arrV_size]; exact hin) rfl rfl hdg fun H1 e z oq => ?_
  refine kk H1 _ _ (hp_up_s _ _ _) (fun q h => hp_up_n h) (hH.set hμ ?_ z oq)
  show H1[a]? = some (vp_cell _ _)
  rw [e]
  rw [vp_cell_i, vp_cell_i, arrV_store]
  congr 2
  funext q
  by_cases hq : q = i.toNatClampNeg
  · subst hq
    simp [updV, upd]
  · simp [updV, upd, hq]
theorem hp_last (hexec : p.tables.exec = Jvm.exec) (hb : c.code = cc) (hA : ArrOfT s (X.2.2.1 1) .long) (hH : hp_w X cl μ nx H locs) {n : Nat} {f : Nat → Int64} (hμ : μ a = some (hp_l X n f)) {i : Int32} {x : Int64} (hin : vp_in i n) (hdg : decode cc pc = .ok (.lastore, 1))
    (kk : ∀ (H1 : Heap) (locs1 : List Loc) (μ1 : hp_M), μ1 a = some (hp_l X n (vp_updL f i.toNatClampNeg x)) → (∀ q, q ≠ a → μ1 q = μ q) → hp_w X cl μ1 nx H1 locs1 → W p l e R s m args below meth c H1 locs1 cells slots Q (F0 m (pc + 1) ls rest)) : W p l e R s m args below meth c H locs cells slots Q (F0 m pc ls (.long x :: .int i :: .ref a :: rest)) := by
  refine W.last hexec hb (hH.2.2.2.1 a _ hμ).2 (hA n (fun j => .long (f j))) (fun q => by cases q) (by show ¬ (i < 0 ∨ (arrV _ _ _).slots.size ≤ _); rw [arrV_size]; exact hin) rfl rfl hdg fun H1 e z oq => ?_
  refine kk H1 _ _ (hp_up_s _ _ _) (fun q h => hp_up_n h) (hH.set hμ ?_ z oq)
  show H1[a]? = some (vp_cell _ _)
  rw [e]
  rw [vp_cell_l, vp_cell_l, arrV_store]
  congr 2
  funext q
  by_cases hq : q = i.toNatClampNeg
  · subst hq
    simp [updV, vp_updL]
  · simp [updV, vp_updL, hq]
theorem hp_alen (hexec : p.tables.exec = Jvm.exec) (hb : c.code = cc) {cA : ClassId} {ty : FieldType} (hA : ArrOfT s cA ty) (hH : hp_w X cl μ nx H locs) {x : vp_A} (hμ : μ a = some (.inl (cA, x))) {w : Int32} (hv : nI x.1 = w) (hdg : decode cc pc = .ok (.arraylength, 1))
    (kk : W p l e R s m args below meth c H locs cells slots Q (F0 m (pc + 1) ls (.int w :: rest))) : W p l e R s m args below meth c H locs cells slots Q (F0 m pc ls (.ref a :: rest)) := by
  subst hv
  have hc := (hH.2.2.2.1 a _ hμ).2
  obtain ⟨n, f | f | f | f | f⟩ := x
  · exact W.alen (n := Int32.ofNat n) hexec hb hc (hA n (fun j => .int (f j))) (by rw [vp_cell_i, arrV_size] <;> rfl) rfl rfl hdg kk
  · exact W.alen (n := Int32.ofNat n) hexec hb hc (hA n (fun j => .long (f j))) (by rw [vp_cell_l, arrV_size] <;> rfl) rfl rfl hdg kk
  · exact W.alen (n := Int32.ofNat n) hexec hb hc (hA n (fun j => .float (f j))) (by rw [vp_cell_f, arrV_size] <;> rfl) rfl rfl hdg kk
  · exact W.alen (n := Int32.ofNat n) hexec hb hc (hA n (fun j => .double (f j))) (by rw [vp_cell_d, arrV_size] <;> rfl) rfl rfl hdg kk
  · exact W.alen (n := Int32.ofNat n) hexec hb hc (hA n (fun j => va_rf (f j))) (by rw [vp_cell_q, arrV_size] <;> rfl) rfl rfl hdg kk
/-- a new int or long array -/
theorem hp_newi (hexec : p.tables.exec = Jvm.exec) (hb : c.code = cc) (harr : (Cond.arrayClass .int).before args s = true) (hR : s.vm.findClass "[I" = some (X.2.2.1 0)) (hH : hp_w X cl μ nx H locs) {n : Int32} {N : Nat} (hn : ¬ n < 0) (hN : n.toNatClampNeg = N) (hbytes : N * 4 ≤ 536870912) (hcells : cells + 1 ≤ R.cells) (hslots : slots + N ≤ R.slots) (hdg : decode cc pc = .ok (.newarray .int, 2))
    (kk : ∀ (H1 : Heap) (μ1 : hp_M), μ1 nx = some (hp_i X N (fun _ => 0)) → (∀ q, q ≠ nx → μ1 q = μ q) → hp_w X cl μ1 (nx + 1) H1 locs → W p l e R s m args below meth c H1 locs (cells + 1) (slots + N) Q (F0 m (pc + 2) ls (.ref nx :: rest))) : W p l e R s m args below meth c H locs cells slots Q (F0 m pc ls (.int n :: rest)) := by
  refine va_newaK (atype := .int) hexec hb harr rfl hdg rfl hn hN hbytes hcells hslots hH.1 fun H1 cA e1 z1 o1 hAr hNm => ?_
  have hcA : cA = X.2.2.1 0 := Option.some.inj (hNm.symm.trans hR)
  subst hcA
  exact kk H1 _ (hp_up_s _ _ _) (fun q h => hp_up_n h) (hH.push (show H1[nx]? = some (vp_cell _ _) from e1) z1 o1)
theorem hp_newl (hexec : p.tables.exec = Jvm.exec) (hb : c.code = cc) (harr : (Cond.arrayClass .long).before args s = true) (hR : s.vm.findClass "[J" = some (X.2.2.1 1)) (hH : hp_w X cl μ nx H locs) {n : Int32} {N : Nat} (hn : ¬ n < 0) (hN : n.toNatClampNeg = N) (hbytes : N * 8 ≤ 536870912) (hcells : cells + 1 ≤ R.cells) (hslots : slots + N ≤ R.slots) (hdg : decode cc pc = .ok (.newarray .long, 2))
    (kk : ∀ (H1 : Heap) (μ1 : hp_M), μ1 nx = some (hp_l X N (fun _ => 0)) → (∀ q, q ≠ nx → μ1 q = μ q) → hp_w X cl μ1 (nx + 1) H1 locs → W p l e R s m args below meth c H1 locs (cells + 1) (slots + N) Q (F0 m (pc + 2) ls (.ref nx :: rest))) : W p l e R s m args below meth c H locs cells slots Q (F0 m pc ls (.int n :: rest)) := by
  refine va_newaK (atype := .long) hexec hb harr rfl hdg rfl hn hN hbytes hcells hslots hH.1 fun H1 cA e1 z1 o1 hAr hNm => ?_
  have hcA : cA = X.2.2.1 1 := Option.some.inj (hNm.symm.trans hR)
  subst hcA
  exact kk H1 _ (hp_up_s _ _ _) (fun q h => hp_up_n h) (hH.push (show H1[nx]? = some (vp_cell _ _) from e1) z1 o1)
/-- a new object -/
def hp_N (cl : List vw_C) (s : State) (args : Array Value) (own : String) (index ci N : Nat) (fs : List Value) : Prop :=
  ∃ (C : String) (T : u_T) (ty : Nat → FieldType), cl[ci]? = some (C, T, N) ∧ (∀ w ∈ u_ws C T N, w.before args s = true) ∧ (∀ k, k < N → parseFieldDescriptor (T k).2.2.1 = some (ty k)) ∧ (Cond.classLink own index C).before args s = true ∧ (Cond.instantiable C N).before args s = true ∧ (Cond.initialized C).before args s = true ∧ ∀ j, j < N → defaultValue (ty j) = vp_V fs j
theorem hp_new (hexec : p.tables.exec = Jvm.exec) (hb : c.code = cc) (hown : s.vm.findClass own = some m.cls) (hK : va_K X.1 cl tys s) (hH : hp_w X cl μ nx H locs) {N : Nat} (hN : hp_N cl s args own index ci N fs) (hcells : cells + 1 ≤ R.cells) (hslots : slots + N ≤ R.slots) (hdg : decode cc pc = .ok (.new index, 3))
    (kk : ∀ (H1 : Heap) (μ1 : hp_M), μ1 nx = some (.inr (ci, fs)) → (∀ q, q ≠ nx → μ1 q = μ q) → hp_w X cl μ1 (nx + 1) H1 locs → W p l e R s m args below meth c H1 locs (cells + 1) (slots + N) Q (F0 m (pc + 3) ls (.ref nx :: rest))) : W p l e R s m args below meth c H locs cells slots Q (F0 m pc ls rest) := by
  obtain ⟨C, T, ty, hc, hin, hty, hcl, hinst, hini, hfs⟩ := hN
  have hKn := hK.1 ci _ hc
  refine W.newcK hexec hb hown hcl hinst hini rfl hdg hcells hslots hKn.2.1 hH.1 fun H1 kC hkC e1 z1 o1 => ?_
  exact kk H1 _ (hp_up_s _ _ _) (fun q h => hp_up_n h) (hH.push ⟨_, hc, (u_born ty hin (fun _ h => h) hKn hkC e1 hty).to hfs⟩ z1 o1)
/-- who receives a call -/
theorem hp_recv (hK : va_K X.1 cl tys s) (hH : hp_w X cl μ nx H locs) {q : vw_C} (hc : cl[ci]? = some q) (hμ : μ a = some (.inr (ci, fs))) : ∃ cell : Cell, H[a]? = some cell ∧ cell.vm.isStatics = false ∧ s.vm.findClass q.1 = some cell.cls := by
  obtain ⟨q', h1, cell, g1, g2, g3, -⟩ := (hH.2.2.2.1 a _ hμ).2
  exact ⟨cell, g1, by rw [g3]; rfl, by rw [g2]; exact (hK.1 ci q hc).2.1⟩
end HPA
end
section
/-! the tables' words at every state of a run; what the statics hold; contracts over my heap words -/
def kw_ok (w : Cond) : Bool := goodWord w || (match w with
  | .fieldLinkNest .. => true
  | .methodLinkNest .. => true
  | .castable .. => true
  | .declares .. => true
  | .arrayOver (.object _) => true
  | _ => false)
def tb : List Cond := lw_tbl.filter kw_ok
theorem tb_of {w : Cond} (h : w ∈ lw_tbl) (hk : kw_ok w = true) : w ∈ tb := List.mem_filter.mpr ⟨h, hk⟩
def kw (U : State) : Prop := ∀ w ∈ tb, ∀ A : Array Value, w.before A U = true
theorem kw_move {w : Cond} (hk : kw_ok w = true) {s U : State} (hW : s.WarmedH U.vm) {a : Array Value} (h : w.before a s = true) (A : Array Value) : w.before A U = true := by
  unfold kw_ok at hk
  rw [Bool.or_eq_true] at hk
  rcases hk with hk | hk
  · exact word_at hW (good_of_word hk) h
  · cases w with
    | fieldLinkNest a1 i b n d hh => exact va_Nw.use rfl (va_Nw.warmF hW (va_Nw.of rfl h))
    | methodLinkNest a1 i x hh => exact va_Nw.use rfl (va_Nw.warmM hW (va_Nw.of rfl h))
    | castable C T => exact va_Nw.use rfl (va_Nw.warmC hW (va_Nw.of rfl h))
    | declares x => exact va_Nw.use rfl (va_Nw.warmD hW (va_Nw.of rfl h))
    | arrayOver ty =>
      cases ty with
      | object C => exact va_AO.use (va_AO.moved hW.alike (va_AO.of h))
      | _ => first | cases hk | simp at hk
    | _ => first | cases hk | simp at hk
theorem kw.warm {s U : State} (h : kw s) (hW : s.WarmedH U.vm) : kw U := fun w hw A => kw_move (List.mem_filter.mp hw).2 hW (h w hw #[]) A
theorem kw.of {s : State} {a : Array Value} (h : ∀ w ∈ lw_tbl, w.before a s = true) : kw s := fun w hw A => kw_move (List.mem_filter.mp hw).2 (State.WarmedH.refl s) (h w (List.mem_filter.mp hw).1) A
abbrev hp_A (X : hp_X) : Nat → Prop := fun q => X.2.1.size ≤ q
def nmK : List String := ["BAD", "REQUEST", "WAKE", "SEARCH", "CHOOSE", "HALT", "ACTIVATE", "RELEASE"]
def nmR : List String := ["NOTHING", "A", "REST", "B_MORE", "B_LAST", "C", "D"]
def fdR : List (String × String × String × List Int32) := [("java/lang/Enum", "ordinal", "I", [0, 1, 2, 3, 4, 5, 6])]
abbrev hp_ty (X : hp_X) : List (ClassId × FieldType) := [(X.2.2.1 0, .int), (X.2.2.1 1, .long), (X.2.2.1 2, .object "java/lang/Object"), (X.2.2.1 3, .boolean)]
def KS (X : hp_X) (U : State) : Prop :=
  kw U ∧ va_K X.1 cls (hp_ty X) U ∧ va_En RX5 "LTagField$Kind;" nmK [] (fun i => X.2.2.2 i) (hp_A X) U X.2.1 ∧ va_En RX7 "LTagField$Reply;" nmR fdR (fun i => X.2.2.2 (8 + i)) (hp_A X) U X.2.1 ∧
  va_Z RX0 "$SwitchMap$TagField$Reply" "[I" (.ref (X.2.2.2 15)) (hp_A X) U X.2.1 ∧ va_T .int (X.2.2.2 15) 7 (fun j => .int (nI j)) (hp_A X) U X.2.1 ∧
  va_Z RJx4a65c "DEFAULTCAPACITY_EMPTY_ELEMENTDATA" "[Ljava/lang/Object;" (.ref (X.2.2.2 16)) (hp_A X) U X.2.1 ∧ va_T (.object "java/lang/Object") (X.2.2.2 16) 0 (fun _ => .null) (hp_A X) U X.2.1
theorem KS.warm {X : hp_X} {s U : State} (h : KS X s) (hW : s.WarmedH U.vm) : KS X U := by
  obtain ⟨h1, h2, h3, h4, h5, h6, h7, h8⟩ := h
  exact ⟨h1.warm hW, va_K.moved hW.alike h2, va_En.moved hW.alike h3, va_En.moved hW.alike h4, va_Z.moved hW.alike h5, va_T.moved hW.alike h6, va_Z.moved hW.alike h7, va_T.moved hW.alike h8⟩
theorem KS.ai {X : hp_X} {s : State} (h : KS X s) : ArrOfT s (X.2.2.1 0) .int := (h.2.1.2 0 _ rfl).1
theorem KS.al {X : hp_X} {s : State} (h : KS X s) : ArrOfT s (X.2.2.1 1) .long := (h.2.1.2 1 _ rfl).1
theorem KS.aq {X : hp_X} {s : State} (h : KS X s) : ArrOfT s (X.2.2.1 2) (.object "java/lang/Object") := (h.2.1.2 2 _ rfl).1
theorem KS.ab {X : hp_X} {s : State} (h : KS X s) : ArrOfT s (X.2.2.1 3) .boolean := (h.2.1.2 3 _ rfl).1
theorem KS.ni {X : hp_X} {s : State} (h : KS X s) : s.vm.findClass "[I" = some (X.2.2.1 0) := (h.2.1.2 0 _ rfl).2
theorem KS.nl {X : hp_X} {s : State} (h : KS X s) : s.vm.findClass "[J" = some (X.2.2.1 1) := (h.2.1.2 1 _ rfl).2
theorem KS.nb {X : hp_X} {s : State} (h : KS X s) : s.vm.findClass "[Z" = some (X.2.2.1 3) := (h.2.1.2 3 _ rfl).2
/-- the world of a state -/
def hp_Wd (X : hp_X) (μ : hp_M) (nx : Nat) (U : State) : Prop := KS X U ∧ hp_w X cls μ nx U.heap []
theorem hp_w.drop {X : hp_X} {μ : hp_M} {nx : Nat} {H : Heap} {locs : List Loc} (h : hp_w X cls μ nx H locs) : hp_w X cls μ nx H [] := ⟨h.1, h.2.1, h.2.2.1, h.2.2.2.1, fun _ q => by cases q⟩
/-- a contract -/
abbrev Ct (l : Launch) (X : hp_X) (y : MethodName) (cc : ByteArray) (maxL : Nat) (ret : Option FieldType) (fr lo mc ms : Nat) (av : List Value) (μ : hp_M) (nx : Nat) (Qc : Array Value → State → Outcome → State → Prop) : Prop :=
  Met l y [Cond.code y cc maxL ret] { frames := fr, cells := mc, slots := ms, locals := lo } (va_Pc av (hp_Wd X μ nx)) Qc mc ms (hp_A X)
def hq_i (X : hp_X) (post : Int32 → hp_M → Nat → Prop) : Array Value → State → Outcome → State → Prop := fun _ _ oc t => ∃ (r : Int32) (μ : hp_M) (nx : Nat), oc = .returned (some (.int r)) ∧ post r μ nx ∧ hp_Wd X μ nx t
def hq_l (X : hp_X) (post : Int64 → hp_M → Nat → Prop) : Array Value → State → Outcome → State → Prop := fun _ _ oc t => ∃ (r : Int64) (μ : hp_M) (nx : Nat), oc = .returned (some (.long r)) ∧ post r μ nx ∧ hp_Wd X μ nx t
def hq_r (X : hp_X) (post : Nat → hp_M → Nat → Prop) : Array Value → State → Outcome → State → Prop := fun _ _ oc t => ∃ (r : Nat) (μ : hp_M) (nx : Nat), oc = .returned (some (.ref r)) ∧ post r μ nx ∧ hp_Wd X μ nx t
def hq_v (X : hp_X) (post : hp_M → Nat → Prop) : Array Value → State → Outcome → State → Prop := fun _ _ oc t => ∃ (μ : hp_M) (nx : Nat), oc = .returned none ∧ post μ nx ∧ hp_Wd X μ nx t
theorem hp_met {l : Launch} {X : hp_X} {y : MethodName} {cc : ByteArray} {maxL : Nat} {ret : Option FieldType} {fr lo mc ms : Nat} {av : List Value} {μ : hp_M} {nx : Nat} {Qc : Array Value → State → Outcome → State → Prop} (hy : plainName y.cls = true) (hn : (lg_sl av).length ≤ maxL)
    (body : ∀ (p : Program) (e : Env) (s : State) (m : MethodId) (below : List Frame) (meth : Method) (c : Code) (ls : Array Slot), p.tables.exec = Jvm.exec → c.code = cc → c.maxLocals = maxL → meth.sig.returnType = ret → meth.locks = false → s.vm.findClass y.cls = some m.cls → meth.name = y.name → KS X s → hp_w X cls μ nx s.heap [] → lv_has ls maxL (lv_args 0 av) →
      W p l e { frames := fr, cells := mc, slots := ms, locals := lo } s m av.toArray below meth c s.heap [] 0 0 (MQ below Qc av.toArray s mc ms (hp_A X)) (F0 m 0 ls [])) : Ct l X y cc maxL ret fr lo mc ms av μ nx Qc := by
  refine Met.ofW (cc := cc) (maxL := maxL) (ret := ret) hy rfl ?_
  intro p e s m args below meth c s₁ B hml hv
  obtain ⟨rfl, hS, hH⟩ := hv
  have hl := lv_entry av (n := maxL) hn
  rw [lg_entry_eq]
  exact body p e s m below meth c _ B.exec B.bytes hml B.returns B.notSynchronized (findClass_of_methodNamed B.named) (name_of_methodNamed B.named B.method).1 hS hH hl
/-- what a call links -/
def mV (own : String) (index : Nat) (y : MethodName) (bytes : ByteArray) (maxL : Nat) (ret : Option FieldType) (n : Nat) : Prop :=
  Cond.code y bytes maxL ret ∈ tb ∧ Cond.initialized y.cls ∈ tb ∧ (y.cls ≠ "java/lang/invoke/MethodHandle" ∧ y.cls ≠ "java/lang/invoke/VarHandle") ∧ (parseMethodDescriptor y.desc).map (fun d => d.parameters.length) = some n ∧ (Cond.methodLink own index y ∈ tb ∨ ∃ host : String, Cond.methodLinkNest own index y host ∈ tb)
theorem mV.len {own : String} {index : Nat} {y : MethodName} {bytes : ByteArray} {maxL n : Nat} {ret : Option FieldType} (h : mV own index y bytes maxL ret n) : ∀ sig, parseMethodDescriptor y.desc = some sig → n = sig.parameters.length := by
  intro sig hs
  have h2 := h.2.2.2.1
  rw [hs] at h2
  exact (Option.some.inj h2).symm
section HPC
variable {p : Program} {l : Launch} {e : Env} {R : Room} {s : State} {m : MethodId} {args : Array Value} {below : List Frame} {meth : Method} {c : Code} {H : Heap} {locs : List Loc} {cells slots : Nat} {Q : State → Prop}
variable {cc : ByteArray} {pc : Nat} {ls : Array Slot} {rest st0 As : List Value} {X : hp_X} {b nx nL : Nat} {μ : hp_M} {own : String} {index n : Nat} {y : MethodName} {bytes : ByteArray} {maxL fr lo mc ms : Nat} {ret : Option FieldType} {Qc : Array Value → State → Outcome → State → Prop}
theorem hp_blind {av : List Value} : FrameBlind (va_Pc av (hp_Wd X μ nx)) := fun a U g mk q => ⟨q.1, q.2.1.warm (State.WarmedH.refl U), q.2.2⟩
theorem hp_pre {av : List Value} (hS : KS X s) (hH : hp_w X cls μ nx H locs) : PreS s H (va_Pc av (hp_Wd X μ nx)) av := ⟨hp_blind, fun U hU hW => ⟨rfl, hS.warm hW, by rw [hU]; exact hH.drop⟩⟩
theorem hp_words (hS : KS X s) (hk : Cond.code y bytes maxL ret ∈ tb) : ∀ w ∈ [Cond.code y bytes maxL ret], ∀ (a' : Array Value) (U : State), s.WarmedH U.vm → w.before a' U = true := by
  intro w hw a' U hW
  rw [List.mem_singleton.mp hw]
  exact hS.1.warm hW _ hk a'
theorem hp_runV (hx : p.tables.exec = Jvm.exec) (hb : c.code = cc) (hml : c.maxLocals = nL) (hown : s.vm.findClass own = some m.cls) (hS : KS X s) (hH : hp_w X cls μ nx H locs) (hM : Ct l X y bytes maxL ret fr lo mc ms (.ref b :: As) μ nx Qc) (hk : mV own index y bytes maxL ret n) (hin : Cond.instanceMethod y ∈ tb) (hse : Cond.selects y.cls y y ∈ tb) {ci : Nat} {q : vw_C} (hc : cls[ci]? = some q) (hq : q.1 = y.cls) {fs : List Value} (hμ : μ b = some (.inr (ci, fs))) (hn : As.length = n) (hsz : ls.size = nL) (hst : st0 = As.reverse ++ .ref b :: rest) (hroom : (rest.map fun v => v.category).sum ≤ 8) (hdg : decode cc pc = .ok (.invokevirtual index, 3)) (hR : fr + 1 ≤ R.frames ∧ 8 + (maxL + 11) + lo ≤ R.locals) (hf : cells + mc ≤ R.cells ∧ slots + ms ≤ R.slots) :
    va_Run p l e R s m args below meth c H locs cells slots mc ms (F0 m pc ls st0) rest (Qc (Value.ref b :: As).toArray) (hp_A X) := by
  have hp : PreV s H y.cls b (va_Pc (.ref b :: As) (hp_Wd X μ nx)) As := ⟨hp_blind, by rw [← hq]; exact hp_recv hS.2.1 hH hc hμ, (hp_pre hS hH).2⟩
  have ok : ∀ {w : Cond}, w ∈ tb → w.before args s = true := fun h => hS.1 _ h args
  rcases hk.2.2.2.2 with hl | ⟨host, hl⟩
  · exact va_runV (Ts := tb) (C := y.cls) ⟨hx, hb, hml, hown, fun w h => hS.1 w h args⟩ hM ⟨⟨rfl, rfl, hR.1, hR.2, hp_words hS hk.1, List.mem_singleton.mpr rfl, ok hk.1, ok hk.2.1, hk.2.2.1, hk.len, ok hl⟩, ok hin, ok hse⟩ hp rfl hn hsz hst (lv_room hroom) hdg hf
  · exact va_runVN (Ts := tb) (C := y.cls) (host := host) ⟨hx, hb, hml, hown, fun w h => hS.1 w h args⟩ hM ⟨⟨⟨rfl, rfl, hR.1, hR.2, hp_words hS hk.1, List.mem_singleton.mpr rfl⟩, ok hk.1, ok hk.2.1, hk.2.2.1, hk.len, ok hl⟩, ok hin, ok hse⟩ hp rfl hn hsz hst (lv_room hroom) hdg hf
theorem hp_runS (hx : p.tables.exec = Jvm.exec) (hb : c.code = cc) (hml : c.maxLocals = nL) (hown : s.vm.findClass own = some m.cls) (hS : KS X s) (hH : hp_w X cls μ nx H locs) (hM : Ct l X y bytes maxL ret fr lo mc ms As μ nx Qc) (hk : mV own index y bytes maxL ret n) (hin : Cond.static y ∈ tb) (hn : As.length = n) (hsz : ls.size = nL) (hst : st0 = As.reverse ++ rest) (hroom : (rest.map fun v => v.category).sum ≤ 8) (hdg : decode cc pc = .ok (.invokestatic index, 3)) (hR : fr + 1 ≤ R.frames ∧ 8 + (maxL + 11) + lo ≤ R.locals) (hf : cells + mc ≤ R.cells ∧ slots + ms ≤ R.slots) :
    va_Run p l e R s m args below meth c H locs cells slots mc ms (F0 m pc ls st0) rest (Qc As.toArray) (hp_A X) := by
  have ok : ∀ {w : Cond}, w ∈ tb → w.before args s = true := fun h => hS.1 _ h args
  rcases hk.2.2.2.2 with hl | ⟨host, hl⟩
  · exact va_runS (Ts := tb) ⟨hx, hb, hml, hown, fun w h => hS.1 w h args⟩ hM ⟨⟨rfl, rfl, hR.1, hR.2, hp_words hS hk.1, List.mem_singleton.mpr rfl, ok hk.1, ok hk.2.1, hk.2.2.1, hk.len, ok hl⟩, ok hin⟩ (hp_pre hS hH) rfl hn hsz hst (lv_room hroom) hdg hf
  · exact va_runSN (Ts := tb) (host := host) ⟨hx, hb, hml, hown, fun w h => hS.1 w h args⟩ hM ⟨⟨⟨rfl, rfl, hR.1, hR.2, hp_words hS hk.1, List.mem_singleton.mpr rfl⟩, ok hk.1, ok hk.2.1, hk.2.2.1, hk.len, ok hl⟩, ok hin, trivial⟩ (hp_pre hS hH) rfl hn hsz hst (lv_room hroom) hdg hf
theorem hp_runI (hx : p.tables.exec = Jvm.exec) (hb : c.code = cc) (hml : c.maxLocals = nL) (hown : s.vm.findClass own = some m.cls) (hS : KS X s) (hH : hp_w X cls μ nx H locs) (hM : Ct l X y bytes maxL none fr lo mc ms (.ref b :: As) μ nx Qc) (hk : mV own index y bytes maxL none n) (hin : Cond.instanceMethod y ∈ tb) (hy1 : y.name = "<init>") (hn : As.length = n) (hsz : ls.size = nL) (hst : st0 = As.reverse ++ .ref b :: rest) (hroom : (rest.map fun v => v.category).sum ≤ 8) (hdg : decode cc pc = .ok (.invokespecial index, 3)) (hR : fr + 1 ≤ R.frames ∧ 8 + (maxL + 11) + lo ≤ R.locals) (hf : cells + mc ≤ R.cells ∧ slots + ms ≤ R.slots) :
    va_Run p l e R s m args below meth c H locs cells slots mc ms (F0 m pc ls st0) rest (Qc (Value.ref b :: As).toArray) (hp_A X) := by
  have ok : ∀ {w : Cond}, w ∈ tb → w.before args s = true := fun h => hS.1 _ h args
  rcases hk.2.2.2.2 with hl | ⟨host, hl⟩
  · exact va_runI (Ts := tb) ⟨hx, hb, hml, hown, fun w h => hS.1 w h args⟩ hM ⟨⟨rfl, rfl, hR.1, hR.2, hp_words hS hk.1, List.mem_singleton.mpr rfl, ok hk.1, ok hk.2.1, hk.2.2.1, hk.len, ok hl⟩, hy1, ok hin⟩ (hp_pre hS hH) rfl hn hsz hst (lv_room hroom) hdg hf
  · exact va_runIN (Ts := tb) (host := host) ⟨hx, hb, hml, hown, fun w h => hS.1 w h args⟩ hM ⟨⟨⟨rfl, rfl, hR.1, hR.2, hp_words hS hk.1, List.mem_singleton.mpr rfl⟩, ok hk.1, ok hk.2.1, hk.2.2.1, hk.len, ok hl⟩, hy1, ok hin⟩ (hp_pre hS hH) rfl hn hsz hst (lv_room hroom) hdg hf
variable {a : Array Value}
theorem hp_back {μ1 : hp_M} {nx1 : Nat} {t T' : State} {L : List Loc} (hH : hp_w X cls μ nx H locs) (hL : ∀ q ∈ L, hp_A X q.base) (e1 : T'.heap = t.heap) (h1 : hp_Wd X μ1 nx1 t) : hp_w X cls μ1 nx1 T'.heap (locs ++ L) := by
  rw [e1]
  refine ⟨h1.2.1, h1.2.2.1, h1.2.2.2.1, h1.2.2.2.2.1, fun q hq => ?_⟩
  rcases List.mem_append.mp hq with h | h
  · exact hH.2.2.2.2 q h
  · exact hL q h
theorem hp_ki {post : Int32 → hp_M → Nat → Prop} (hr : va_Run p l e R s m args below meth c H locs cells slots mc ms (F0 m pc ls st0) rest (hq_i X post a) (hp_A X)) (hH : hp_w X cls μ nx H locs)
    (kk : ∀ (r : Int32) (μ1 : hp_M) (nx1 : Nat) (H1 : Heap) (locs1 : List Loc), post r μ1 nx1 → hp_w X cls μ1 nx1 H1 locs1 → W p l e R s m args below meth c H1 locs1 (cells + mc) (slots + ms) Q (F0 m (pc + 3) ls (.int r :: rest))) : W p l e R s m args below meth c H locs cells slots Q (F0 m pc ls st0) := by
  intro T hT X0
  obtain ⟨v, st₀, t, T', L, h0, X', hL, e1, e2, ⟨r, μ1, nx1, hv, hp, hw⟩, st⟩ := hr T hT X0
  cases hv
  obtain ⟨t2, a1, b1⟩ := kk r μ1 nx1 T'.heap (locs ++ L) hp (hp_back hH hL e1 hw) T' rfl X'
  exact ⟨t2, st t2 a1, b1⟩
theorem hp_kl {post : Int64 → hp_M → Nat → Prop} (hr : va_Run p l e R s m args below meth c H locs cells slots mc ms (F0 m pc ls st0) rest (hq_l X post a) (hp_A X)) (hH : hp_w X cls μ nx H locs)
    (kk : ∀ (r : Int64) (μ1 : hp_M) (nx1 : Nat) (H1 : Heap) (locs1 : List Loc), post r μ1 nx1 → hp_w X cls μ1 nx1 H1 locs1 → W p l e R s m args below meth c H1 locs1 (cells + mc) (slots + ms) Q (F0 m (pc + 3) ls (.long r :: rest))) : W p l e R s m args below meth c H locs cells slots Q (F0 m pc ls st0) := by
  intro T hT X0
  obtain ⟨v, st₀, t, T', L, h0, X', hL, e1, e2, ⟨r, μ1, nx1, hv, hp, hw⟩, st⟩ := hr T hT X0
  cases hv
  obtain ⟨t2, a1, b1⟩ := kk r μ1 nx1 T'.heap (locs ++ L) hp (hp_back hH hL e1 hw) T' rfl X'
  exact ⟨t2, st t2 a1, b1⟩
theorem hp_kr {post : Nat → hp_M → Nat → Prop} (hr : va_Run p l e R s m args below meth c H locs cells slots mc ms (F0 m pc ls st0) rest (hq_r X post a) (hp_A X)) (hH : hp_w X cls μ nx H locs)
    (kk : ∀ (r : Nat) (μ1 : hp_M) (nx1 : Nat) (H1 : Heap) (locs1 : List Loc), post r μ1 nx1 → hp_w X cls μ1 nx1 H1 locs1 → W p l e R s m args below meth c H1 locs1 (cells + mc) (slots + ms) Q (F0 m (pc + 3) ls (.ref r :: rest))) : W p l e R s m args below meth c H locs cells slots Q (F0 m pc ls st0) := by
  intro T hT X0
  obtain ⟨v, st₀, t, T', L, h0, X', hL, e1, e2, ⟨r, μ1, nx1, hv, hp, hw⟩, st⟩ := hr T hT X0
  cases hv
  obtain ⟨t2, a1, b1⟩ := kk r μ1 nx1 T'.heap (locs ++ L) hp (hp_back hH hL e1 hw) T' rfl X'
  exact ⟨t2, st t2 a1, b1⟩
theorem hp_kv {post : hp_M → Nat → Prop} (hr : va_Run p l e R s m args below meth c H locs cells slots mc ms (F0 m pc ls st0) rest (hq_v X post a) (hp_A X)) (hH : hp_w X cls μ nx H locs)
    (kk : ∀ (μ1 : hp_M) (nx1 : Nat) (H1 : Heap) (locs1 : List Loc), post μ1 nx1 → hp_w X cls μ1 nx1 H1 locs1 → W p l e R s m args below meth c H1 locs1 (cells + mc) (slots + ms) Q (F0 m (pc + 3) ls rest)) : W p l e R s m args below meth c H locs cells slots Q (F0 m pc ls st0) := by
  intro T hT X0
  obtain ⟨v, st₀, t, T', L, h0, X', hL, e1, e2, ⟨μ1, nx1, hv, hp, hw⟩, st⟩ := hr T hT X0
  cases hv
  obtain ⟨t2, a1, b1⟩ := kk μ1 nx1 T'.heap (locs ++ L) hp (hp_back hH hL e1 hw) T' rfl X'
  exact ⟨t2, st t2 a1, b1⟩
/-- ends -/
theorem hp_ri {post : Int32 → hp_M → Nat → Prop} {v : Int32} (hx : p.tables.exec = Jvm.exec) (hb : c.code = cc) (hr : meth.sig.returnType = some .int) (hlocks : meth.locks = false) (hS : KS X s) (hH : hp_w X cls μ nx H locs) (hp : post v μ nx) (hdg : decode cc pc = .ok (.ireturn, 1)) : W p l e R s m args below meth c H locs cells slots (MQ below (hq_i X post) args s cells slots (hp_A X)) (F0 m pc ls [.int v]) :=
  W.iret hx hb hr (fun t ht hW => ⟨v, μ, nx, rfl, hp, hS.warm hW, by rw [ht]; exact hH.drop⟩) (fun q hq => hH.2.2.2.2 q hq) hdg hlocks
theorem hp_rz {post : Int32 → hp_M → Nat → Prop} {v : Int32} (hx : p.tables.exec = Jvm.exec) (hb : c.code = cc) (hr : meth.sig.returnType = some .boolean) (hlocks : meth.locks = false) (hS : KS X s) (hH : hp_w X cls μ nx H locs) (hv : narrow .boolean (.int v) = .int v) (hp : post v μ nx) (hdg : decode cc pc = .ok (.ireturn, 1)) : W p l e R s m args below meth c H locs cells slots (MQ below (hq_i X post) args s cells slots (hp_A X)) (F0 m pc ls [.int v]) :=
  W.zret (ty := .boolean) hx hb hr hv (fun t ht hW => ⟨v, μ, nx, rfl, hp, hS.warm hW, by rw [ht]; exact hH.drop⟩) (fun q hq => hH.2.2.2.2 q hq) hdg hlocks
theorem hp_rl {post : Int64 → hp_M → Nat → Prop} {v : Int64} (hx : p.tables.exec = Jvm.exec) (hb : c.code = cc) (hr : meth.sig.returnType = some .long) (hlocks : meth.locks = false) (hS : KS X s) (hH : hp_w X cls μ nx H locs) (hp : post v μ nx) (hdg : decode cc pc = .ok (.lreturn, 1)) : W p l e R s m args below meth c H locs cells slots (MQ below (hq_l X post) args s cells slots (hp_A X)) (F0 m pc ls [.long v]) :=
  W.lret hx hb hr (fun t ht hW => ⟨v, μ, nx, rfl, hp, hS.warm hW, by rw [ht]; exact hH.drop⟩) (fun q hq => hH.2.2.2.2 q hq) hdg hlocks
theorem hp_rr {post : Nat → hp_M → Nat → Prop} {v : Nat} {rt : FieldType} (hx : p.tables.exec = Jvm.exec) (hb : c.code = cc) (hr : meth.sig.returnType = some rt) (hrt : (∃ n, rt = .object n) ∨ ∃ t, rt = .array t) (hlocks : meth.locks = false) (hS : KS X s) (hH : hp_w X cls μ nx H locs) (hp : post v μ nx) (hdg : decode cc pc = .ok (.areturn, 1)) : W p l e R s m args below meth c H locs cells slots (MQ below (hq_r X post) args s cells slots (hp_A X)) (F0 m pc ls [.ref v]) :=
  W.aret (v := .ref v) hx hb hr hrt (Or.inr ⟨v, rfl⟩) (fun t ht hW => ⟨v, μ, nx, rfl, hp, hS.warm hW, by rw [ht]; exact hH.drop⟩) (fun q hq => hH.2.2.2.2 q hq) hdg hlocks
theorem hp_rv {post : hp_M → Nat → Prop} (hx : p.tables.exec = Jvm.exec) (hb : c.code = cc) (hr : meth.sig.returnType = none) (hlocks : meth.locks = false) (hS : KS X s) (hH : hp_w X cls μ nx H locs) (hp : post μ nx) (hdg : decode cc pc = .ok (.return_, 1)) : W p l e R s m args below meth c H locs cells slots (MQ below (hq_v X post) args s cells slots (hp_A X)) (F0 m pc ls []) :=
  W.vret hx hb hr (fun t ht hW => ⟨μ, nx, rfl, hp, hS.warm hW, by rw [ht]; exact hH.drop⟩) (fun q hq => hH.2.2.2.2 q hq) hdg hlocks
/-- a number on the stack by another name -/
theorem hp_eqi {x z : Int32} (h : x = z) (k : W p l e R s m args below meth c H locs cells slots Q (F0 m pc ls (.int z :: rest))) : W p l e R s m args below meth c H locs cells slots Q (F0 m pc ls (.int x :: rest)) := h ▸ k
theorem hp_eql {x z : Int64} (h : x = z) (k : W p l e R s m args below meth c H locs cells slots Q (F0 m pc ls (.long z :: rest))) : W p l e R s m args below meth c H locs cells slots Q (F0 m pc ls (.long x :: rest)) := h ▸ k
end HPC
/-- fields, by membership -/
def sF (own : String) (index ci k : Nat) : Prop :=
  ∃ (C : String) (T : u_T) (N : Nat) (ref : String), cls[ci]? = some (C, T, N) ∧ k < N ∧ (∀ w ∈ u_ws C T N, w ∈ tb) ∧ (Cond.fieldLink own index ref (T k).2.1 (T k).2.2.1 ∈ tb ∨ ∃ host : String, Cond.fieldLinkNest own index ref (T k).2.1 (T k).2.2.1 host ∈ tb) ∧ (ref = (T k).1 ∨ Cond.sameField ref (T k).1 (T k).2.1 (T k).2.2.1 ∈ tb)
theorem sF.use {own : String} {index ci k : Nat} (h : sF own index ci k) {X : hp_X} {s : State} (hS : KS X s) {args : Array Value} : hp_F cls s args own index ci k := by
  obtain ⟨C, T, N, ref, h1, h2, h3, h4, h5⟩ := h
  refine ⟨C, T, N, ref, h1, h2, fun w hw => hS.1 w (h3 w hw) args, ?_, ?_⟩
  · rcases h4 with h4 | ⟨host, h4⟩
    · exact Or.inl (hS.1 _ h4 args)
    · exact Or.inr ⟨host, hS.1 _ h4 args⟩
  · rcases h5 with rfl | h5
    · exact fun _ h => h
    · exact fun x hx => u_same (hS.1 _ h5 args) x hx
def sP (own : String) (index ci k : Nat) (ty : FieldType) (fin : Bool) : Prop :=
  ∃ (C : String) (T : u_T) (N : Nat) (ref : String) (ty0 : Nat → FieldType), cls[ci]? = some (C, T, N) ∧ k < N ∧ (∀ w ∈ u_ws C T N, w ∈ tb) ∧ (Cond.fieldLink own index ref (T k).2.1 (T k).2.2.1 ∈ tb ∨ (fin = false ∧ ∃ host : String, Cond.fieldLinkNest own index ref (T k).2.1 (T k).2.2.1 host ∈ tb)) ∧ (ref = (T k).1 ∨ Cond.sameField ref (T k).1 (T k).2.1 (T k).2.2.1 ∈ tb) ∧ (T k).2.2.2 = fin ∧ parseFieldDescriptor (T k).2.2.1 = some ty ∧ hp_T T N ty0 ∧ (fin = true → (T k).1 = own)
theorem sP.use {own : String} {index ci k : Nat} {ty : FieldType} {fin : Bool} (h : sP own index ci k ty fin) {X : hp_X} {s : State} (hS : KS X s) {args : Array Value} : hp_P cls s args own index ci k ty fin := by
  obtain ⟨C, T, N, ref, ty0, h1, h2, h3, h4, h5, h6, h7, h8, h9⟩ := h
  refine ⟨C, T, N, ref, ty0, h1, h2, fun w hw => hS.1 w (h3 w hw) args, ?_, ?_, h6, h7, h8, h9⟩
  · rcases h4 with h4 | ⟨h0, host, h4⟩
    · exact Or.inl (hS.1 _ h4 args)
    · exact Or.inr ⟨h0, host, hS.1 _ h4 args⟩
  · rcases h5 with rfl | h5
    · exact fun _ h => h
    · exact fun x hx => u_same (hS.1 _ h5 args) x hx
end
section
theorem wi_0 : Cond.selects RJx4a65c yJx4a65c_add_72be8 yJx4a65c_add_72be8 ∈ tb := tb_of (List.mem_of_getElem? (i := 0) rfl) rfl
theorem wi_1 : Cond.selects RJx4a65c yJx4a65c_grow_d5877 yJx4a65c_grow_d5877 ∈ tb := tb_of (List.mem_of_getElem? (i := 1) rfl) rfl
theorem wi_2 : Cond.selects RJx4a65c yJx4a65c_grow_92f84 yJx4a65c_grow_92f84 ∈ tb := tb_of (List.mem_of_getElem? (i := 2) rfl) rfl
theorem wi_3 : Cond.selects RX4 yX4_readTold yX4_readTold ∈ tb := tb_of (List.mem_of_getElem? (i := 3) rfl) rfl
theorem wi_4 : Cond.selects RX4 yX4_kindOfCommand yX4_kindOfCommand ∈ tb := tb_of (List.mem_of_getElem? (i := 4) rfl) rfl
theorem wi_5 : Cond.selects RX9 yX9_becomeReady yX9_becomeReady ∈ tb := tb_of (List.mem_of_getElem? (i := 5) rfl) rfl
theorem wi_6 : Cond.selects RX9 yX9_become yX9_become ∈ tb := tb_of (List.mem_of_getElem? (i := 6) rfl) rfl
theorem wi_7 : Cond.selects RX9 yX9_hearReady yX9_hearReady ∈ tb := tb_of (List.mem_of_getElem? (i := 7) rfl) rfl
theorem wi_8 : Cond.selects RX9 yX9_showsWhatIsTold yX9_showsWhatIsTold ∈ tb := tb_of (List.mem_of_getElem? (i := 8) rfl) rfl
theorem wi_9 : Cond.selects RX9 yX9_becomeChosen yX9_becomeChosen ∈ tb := tb_of (List.mem_of_getElem? (i := 9) rfl) rfl
theorem wi_10 : Cond.selects RX9 yX9_goBack yX9_goBack ∈ tb := tb_of (List.mem_of_getElem? (i := 10) rfl) rfl
theorem wi_11 : Cond.selects RX9 yX9_hearActive yX9_hearActive ∈ tb := tb_of (List.mem_of_getElem? (i := 11) rfl) rfl
theorem wi_12 : Cond.selects RX6 yX6_searchLevel yX6_searchLevel ∈ tb := tb_of (List.mem_of_getElem? (i := 12) rfl) rfl
theorem wi_13 : Cond.selects RX6 yX6_layOutSearch yX6_layOutSearch ∈ tb := tb_of (List.mem_of_getElem? (i := 13) rfl) rfl
theorem wi_14 : Cond.selects RX6 yX6_knownByte yX6_knownByte ∈ tb := tb_of (List.mem_of_getElem? (i := 14) rfl) rfl
theorem wi_15 : Cond.selects RX6 yX6_learn yX6_learn ∈ tb := tb_of (List.mem_of_getElem? (i := 15) rfl) rfl
theorem wi_16 : Cond.selects RX6 yX6_choose yX6_choose ∈ tb := tb_of (List.mem_of_getElem? (i := 16) rfl) rfl
theorem wi_17 : Cond.selects RX6 yX6_keepBytes yX6_keepBytes ∈ tb := tb_of (List.mem_of_getElem? (i := 17) rfl) rfl
theorem wi_18 : Cond.selects RX6 yX6_halt yX6_halt ∈ tb := tb_of (List.mem_of_getElem? (i := 18) rfl) rfl
theorem wi_19 : Cond.selects RX11 yX11_byteFrom yX11_byteFrom ∈ tb := tb_of (List.mem_of_getElem? (i := 19) rfl) rfl
theorem wi_20 : Cond.selects RX11 yX11_show yX11_show ∈ tb := tb_of (List.mem_of_getElem? (i := 20) rfl) rfl
theorem wi_21 : Cond.selects RX11 yX11_isTag yX11_isTag ∈ tb := tb_of (List.mem_of_getElem? (i := 21) rfl) rfl
theorem wi_22 : Cond.selects RX11 yX11_type yX11_type ∈ tb := tb_of (List.mem_of_getElem? (i := 22) rfl) rfl
theorem wi_23 : Cond.selects RX11 yX11_send yX11_send ∈ tb := tb_of (List.mem_of_getElem? (i := 23) rfl) rfl
theorem wi_24 : Cond.selects RX11 yX11_understand yX11_understand ∈ tb := tb_of (List.mem_of_getElem? (i := 24) rfl) rfl
theorem wi_25 : Cond.selects RX11 yX11_hear yX11_hear ∈ tb := tb_of (List.mem_of_getElem? (i := 25) rfl) rfl
theorem wi_26 : Cond.selects RX11 yX11_begin yX11_begin ∈ tb := tb_of (List.mem_of_getElem? (i := 26) rfl) rfl
theorem wi_27 : Cond.selects RX11 yX11_say yX11_say ∈ tb := tb_of (List.mem_of_getElem? (i := 27) rfl) rfl
theorem wi_28 : Cond.selects RX11 yX11_shows yX11_shows ∈ tb := tb_of (List.mem_of_getElem? (i := 28) rfl) rfl
theorem wi_29 : Cond.selects RX11 yX11_sayRest yX11_sayRest ∈ tb := tb_of (List.mem_of_getElem? (i := 29) rfl) rfl
theorem wi_30 : Cond.selects RX11 yX11_levels yX11_levels ∈ tb := tb_of (List.mem_of_getElem? (i := 30) rfl) rfl
theorem wi_31 : Cond.selects RX11 yX11_sayChecked yX11_sayChecked ∈ tb := tb_of (List.mem_of_getElem? (i := 31) rfl) rfl
theorem wi_32 : Cond.selects RX11 yX11_back yX11_back ∈ tb := tb_of (List.mem_of_getElem? (i := 32) rfl) rfl
theorem wi_33 : Cond.selects RX11 yX11_sendShort yX11_sendShort ∈ tb := tb_of (List.mem_of_getElem? (i := 33) rfl) rfl
theorem wi_34 : Cond.selects RX11 yX11_knows yX11_knows ∈ tb := tb_of (List.mem_of_getElem? (i := 34) rfl) rfl
theorem wi_35 : Cond.selects RX11 yX11_sendSearch yX11_sendSearch ∈ tb := tb_of (List.mem_of_getElem? (i := 35) rfl) rfl
theorem wi_36 : Cond.selects RX11 yX11_put yX11_put ∈ tb := tb_of (List.mem_of_getElem? (i := 36) rfl) rfl
theorem wi_37 : Cond.selects RX11 yX11_knownByte yX11_knownByte ∈ tb := tb_of (List.mem_of_getElem? (i := 37) rfl) rfl
theorem wi_38 : Cond.selects RX11 yX11_chooses yX11_chooses ∈ tb := tb_of (List.mem_of_getElem? (i := 38) rfl) rfl
theorem wi_39 : Cond.selects RX11 yX11_putChecked yX11_putChecked ∈ tb := tb_of (List.mem_of_getElem? (i := 39) rfl) rfl
theorem wi_41 : Cond.initialized RX10 ∈ tb := tb_of (List.mem_of_getElem? (i := 41) rfl) rfl
theorem wi_42 : Cond.initialized RX8 ∈ tb := tb_of (List.mem_of_getElem? (i := 42) rfl) rfl
theorem wi_43 : Cond.initialized RX2 ∈ tb := tb_of (List.mem_of_getElem? (i := 43) rfl) rfl
theorem wi_44 : Cond.initialized RX1 ∈ tb := tb_of (List.mem_of_getElem? (i := 44) rfl) rfl
theorem wi_45 : Cond.initialized RJxa1e45 ∈ tb := tb_of (List.mem_of_getElem? (i := 45) rfl) rfl
theorem wi_46 : Cond.initialized RJxc12de ∈ tb := tb_of (List.mem_of_getElem? (i := 46) rfl) rfl
theorem wi_47 : Cond.initialized RJx4a65c ∈ tb := tb_of (List.mem_of_getElem? (i := 47) rfl) rfl
theorem wi_48 : Cond.initialized RX4 ∈ tb := tb_of (List.mem_of_getElem? (i := 48) rfl) rfl
theorem wi_51 : Cond.initialized RX6 ∈ tb := tb_of (List.mem_of_getElem? (i := 51) rfl) rfl
theorem wi_52 : Cond.initialized RX11 ∈ tb := tb_of (List.mem_of_getElem? (i := 52) rfl) rfl
theorem wi_53 : Cond.initialized RX9 ∈ tb := tb_of (List.mem_of_getElem? (i := 53) rfl) rfl
theorem wi_54 : Cond.initialized RJ15 ∈ tb := tb_of (List.mem_of_getElem? (i := 54) rfl) rfl
theorem wi_55 : Cond.initialized RJ3 ∈ tb := tb_of (List.mem_of_getElem? (i := 55) rfl) rfl
theorem wi_56 : Cond.initialized RJ8 ∈ tb := tb_of (List.mem_of_getElem? (i := 56) rfl) rfl
theorem wi_57 : Cond.initialized RJ9 ∈ tb := tb_of (List.mem_of_getElem? (i := 57) rfl) rfl
theorem wi_58 : Cond.initialized RJ7 ∈ tb := tb_of (List.mem_of_getElem? (i := 58) rfl) rfl
theorem wi_60 : Cond.initialized RX3 ∈ tb := tb_of (List.mem_of_getElem? (i := 60) rfl) rfl
theorem wi_61 : Cond.initialized RJ13 ∈ tb := tb_of (List.mem_of_getElem? (i := 61) rfl) rfl
theorem wi_62 : Cond.initialized RJ6 ∈ tb := tb_of (List.mem_of_getElem? (i := 62) rfl) rfl
theorem wi_65 : Cond.classLink RL 7 RX10 ∈ tb := tb_of (List.mem_of_getElem? (i := 65) rfl) rfl
theorem wi_66 : Cond.instantiable RX10 4 ∈ tb := tb_of (List.mem_of_getElem? (i := 66) rfl) rfl
theorem wi_67 : Cond.methodLink RL 9 yX10_init ∈ tb := tb_of (List.mem_of_getElem? (i := 67) rfl) rfl
theorem wi_68 : Cond.instanceMethod yX10_init ∈ tb := tb_of (List.mem_of_getElem? (i := 68) rfl) rfl
theorem wi_69 : Cond.code yX10_init cX10_init 1 (none : Option Jvm.ClassFile.FieldType) ∈ tb := tb_of (List.mem_of_getElem? (i := 69) rfl) rfl
theorem wi_73 : Cond.classLink RX10 7 RX8 ∈ tb := tb_of (List.mem_of_getElem? (i := 73) rfl) rfl
theorem wi_74 : Cond.instantiable RX8 2 ∈ tb := tb_of (List.mem_of_getElem? (i := 74) rfl) rfl
theorem wi_75 : Cond.methodLink RX10 11 yX8_init ∈ tb := tb_of (List.mem_of_getElem? (i := 75) rfl) rfl
theorem wi_76 : Cond.instanceMethod yX8_init ∈ tb := tb_of (List.mem_of_getElem? (i := 76) rfl) rfl
theorem wi_77 : Cond.code yX8_init cX8_init 2 (none : Option Jvm.ClassFile.FieldType) ∈ tb := tb_of (List.mem_of_getElem? (i := 77) rfl) rfl
theorem wi_79 : Cond.fieldLink RX8 9 "TagField$Row" "bits" "[I" ∈ tb := tb_of (List.mem_of_getElem? (i := 79) rfl) rfl
theorem wi_80 : Cond.fieldLinkNest RX4 20 "TagField$Row" "size" "I" "TagField" ∈ tb := tb_of (List.mem_of_getElem? (i := 80) rfl) rfl
theorem wi_81 : Cond.fieldLink RX8 15 "TagField$Row" "size" "I" ∈ tb := tb_of (List.mem_of_getElem? (i := 81) rfl) rfl
theorem wi_82 : Cond.fieldLinkNest RX10 79 "TagField$Row" "size" "I" "TagField" ∈ tb := tb_of (List.mem_of_getElem? (i := 82) rfl) rfl
theorem wi_87 : Cond.superclass "TagField$Row" "java/lang/Object" ∈ tb := tb_of (List.mem_of_getElem? (i := 87) rfl) rfl
theorem wi_88 : Cond.arrayClass .int ∈ tb := tb_of (List.mem_of_getElem? (i := 88) rfl) rfl
theorem wi_89 : Cond.classLink RX10 18 RX2 ∈ tb := tb_of (List.mem_of_getElem? (i := 89) rfl) rfl
theorem wi_90 : Cond.instantiable RX2 3 ∈ tb := tb_of (List.mem_of_getElem? (i := 90) rfl) rfl
theorem wi_91 : Cond.methodLinkNest RX10 20 yX2_init "TagField" ∈ tb := tb_of (List.mem_of_getElem? (i := 91) rfl) rfl
theorem wi_92 : Cond.instanceMethod yX2_init ∈ tb := tb_of (List.mem_of_getElem? (i := 92) rfl) rfl
theorem wi_93 : Cond.code yX2_init cX2_init 1 (none : Option Jvm.ClassFile.FieldType) ∈ tb := tb_of (List.mem_of_getElem? (i := 93) rfl) rfl
theorem wi_95 : Cond.fieldLink RX2 9 "TagField$Answer" "ones" "J" ∈ tb := tb_of (List.mem_of_getElem? (i := 95) rfl) rfl
theorem wi_96 : Cond.fieldLink RX2 15 "TagField$Answer" "zeros" "J" ∈ tb := tb_of (List.mem_of_getElem? (i := 96) rfl) rfl
theorem wi_97 : Cond.fieldLink RX2 18 "TagField$Answer" "length" "I" ∈ tb := tb_of (List.mem_of_getElem? (i := 97) rfl) rfl
theorem wi_98 : Cond.fieldLinkNest RX1 77 "TagField$Answer" "length" "I" "TagField" ∈ tb := tb_of (List.mem_of_getElem? (i := 98) rfl) rfl
theorem wi_105 : Cond.superclass "TagField$Answer" "java/lang/Object" ∈ tb := tb_of (List.mem_of_getElem? (i := 105) rfl) rfl
theorem wi_106 : Cond.classLink RX10 25 RX1 ∈ tb := tb_of (List.mem_of_getElem? (i := 106) rfl) rfl
theorem wi_107 : Cond.instantiable RX1 4 ∈ tb := tb_of (List.mem_of_getElem? (i := 107) rfl) rfl
theorem wi_108 : Cond.methodLinkNest RX10 27 yX1_init "TagField" ∈ tb := tb_of (List.mem_of_getElem? (i := 108) rfl) rfl
theorem wi_109 : Cond.instanceMethod yX1_init ∈ tb := tb_of (List.mem_of_getElem? (i := 109) rfl) rfl
theorem wi_110 : Cond.code yX1_init cX1_init 1 (none : Option Jvm.ClassFile.FieldType) ∈ tb := tb_of (List.mem_of_getElem? (i := 110) rfl) rfl
theorem wi_112 : Cond.classLink RX1 7 RJx4a65c ∈ tb := tb_of (List.mem_of_getElem? (i := 112) rfl) rfl
theorem wi_113 : Cond.instantiable RJx4a65c 3 ∈ tb := tb_of (List.mem_of_getElem? (i := 113) rfl) rfl
theorem wi_114 : Cond.methodLink RX1 9 yJx4a65c_init_da8c8 ∈ tb := tb_of (List.mem_of_getElem? (i := 114) rfl) rfl
theorem wi_115 : Cond.instanceMethod yJx4a65c_init_da8c8 ∈ tb := tb_of (List.mem_of_getElem? (i := 115) rfl) rfl
theorem wi_116 : Cond.code yJx4a65c_init_da8c8 cJx4a65c_init_da8c8 1 (none : Option Jvm.ClassFile.FieldType) ∈ tb := tb_of (List.mem_of_getElem? (i := 116) rfl) rfl
theorem wi_117 : Cond.methodLink RJx4a65c 1 yJxc12de_init_da8c8 ∈ tb := tb_of (List.mem_of_getElem? (i := 117) rfl) rfl
theorem wi_118 : Cond.instanceMethod yJxc12de_init_da8c8 ∈ tb := tb_of (List.mem_of_getElem? (i := 118) rfl) rfl
theorem wi_119 : Cond.code yJxc12de_init_da8c8 cJxc12de_init_da8c8 1 (none : Option Jvm.ClassFile.FieldType) ∈ tb := tb_of (List.mem_of_getElem? (i := 119) rfl) rfl
theorem wi_120 : Cond.methodLink RJxc12de 1 yJxa1e45_init_da8c8 ∈ tb := tb_of (List.mem_of_getElem? (i := 120) rfl) rfl
theorem wi_121 : Cond.instanceMethod yJxa1e45_init_da8c8 ∈ tb := tb_of (List.mem_of_getElem? (i := 121) rfl) rfl
theorem wi_122 : Cond.code yJxa1e45_init_da8c8 cJxa1e45_init_da8c8 1 (none : Option Jvm.ClassFile.FieldType) ∈ tb := tb_of (List.mem_of_getElem? (i := 122) rfl) rfl
theorem wi_126 : Cond.fieldLink RJx4a65c 9 "java/util/ArrayList" "elementData" "[Ljava/lang/Object;" ∈ tb := tb_of (List.mem_of_getElem? (i := 126) rfl) rfl
theorem wi_127 : Cond.fieldLink RJx4a65c 48 "java/util/ArrayList" "size" "I" ∈ tb := tb_of (List.mem_of_getElem? (i := 127) rfl) rfl
theorem wi_128 : Cond.fieldLink RJxc12de 7 "java/util/AbstractList" "modCount" "I" ∈ tb := tb_of (List.mem_of_getElem? (i := 128) rfl) rfl
theorem wi_129 : Cond.fieldLink RJx4a65c 63 "java/util/ArrayList" "modCount" "I" ∈ tb := tb_of (List.mem_of_getElem? (i := 129) rfl) rfl
theorem wi_130 : Cond.sameField "java/util/ArrayList" "java/util/AbstractList" "modCount" "I" ∈ tb := tb_of (List.mem_of_getElem? (i := 130) rfl) rfl
theorem wi_137 : Cond.superclass "java/util/ArrayList" "java/util/AbstractList" ∈ tb := tb_of (List.mem_of_getElem? (i := 137) rfl) rfl
theorem wi_138 : Cond.classLink RX1 16 RX4 ∈ tb := tb_of (List.mem_of_getElem? (i := 138) rfl) rfl
theorem wi_139 : Cond.instantiable RX4 5 ∈ tb := tb_of (List.mem_of_getElem? (i := 139) rfl) rfl
theorem wi_140 : Cond.methodLinkNest RX1 18 yX4_init "TagField" ∈ tb := tb_of (List.mem_of_getElem? (i := 140) rfl) rfl
theorem wi_141 : Cond.instanceMethod yX4_init ∈ tb := tb_of (List.mem_of_getElem? (i := 141) rfl) rfl
theorem wi_142 : Cond.code yX4_init cX4_init 1 (none : Option Jvm.ClassFile.FieldType) ∈ tb := tb_of (List.mem_of_getElem? (i := 142) rfl) rfl
theorem wi_146 : Cond.fieldLink RX4 15 "TagField$Frame" "kind" "LTagField$Kind;" ∈ tb := tb_of (List.mem_of_getElem? (i := 146) rfl) rfl
theorem wi_147 : Cond.fieldLinkNest RX9 45 "TagField$Frame" "kind" "LTagField$Kind;" "TagField" ∈ tb := tb_of (List.mem_of_getElem? (i := 147) rfl) rfl
theorem wi_148 : Cond.fieldLink RX4 37 "TagField$Frame" "level" "I" ∈ tb := tb_of (List.mem_of_getElem? (i := 148) rfl) rfl
theorem wi_149 : Cond.fieldLinkNest RX9 89 "TagField$Frame" "level" "I" "TagField" ∈ tb := tb_of (List.mem_of_getElem? (i := 149) rfl) rfl
theorem wi_150 : Cond.fieldLink RX4 30 "TagField$Frame" "second" "I" ∈ tb := tb_of (List.mem_of_getElem? (i := 150) rfl) rfl
theorem wi_151 : Cond.fieldLinkNest RX9 161 "TagField$Frame" "second" "I" "TagField" ∈ tb := tb_of (List.mem_of_getElem? (i := 151) rfl) rfl
theorem wi_152 : Cond.fieldLink RX4 80 "TagField$Frame" "told" "J" ∈ tb := tb_of (List.mem_of_getElem? (i := 152) rfl) rfl
theorem wi_153 : Cond.fieldLinkNest RX9 113 "TagField$Frame" "told" "J" "TagField" ∈ tb := tb_of (List.mem_of_getElem? (i := 153) rfl) rfl
theorem wi_154 : Cond.fieldLink RX4 84 "TagField$Frame" "toldCount" "I" ∈ tb := tb_of (List.mem_of_getElem? (i := 154) rfl) rfl
theorem wi_155 : Cond.fieldLinkNest RX9 110 "TagField$Frame" "toldCount" "I" "TagField" ∈ tb := tb_of (List.mem_of_getElem? (i := 155) rfl) rfl
theorem wi_166 : Cond.superclass "TagField$Frame" "java/lang/Object" ∈ tb := tb_of (List.mem_of_getElem? (i := 166) rfl) rfl
theorem wi_167 : Cond.fieldLink RX1 10 "TagField$Air" "tags" "Ljava/util/ArrayList;" ∈ tb := tb_of (List.mem_of_getElem? (i := 167) rfl) rfl
theorem wi_168 : Cond.fieldLink RX1 19 "TagField$Air" "frame" "LTagField$Frame;" ∈ tb := tb_of (List.mem_of_getElem? (i := 168) rfl) rfl
theorem wi_169 : Cond.fieldLink RX1 23 "TagField$Air" "on" "Z" ∈ tb := tb_of (List.mem_of_getElem? (i := 169) rfl) rfl
theorem wi_170 : Cond.fieldLink RX1 56 "TagField$Air" "sent" "I" ∈ tb := tb_of (List.mem_of_getElem? (i := 170) rfl) rfl
theorem wi_171 : Cond.fieldLinkNest RX10 119 "TagField$Air" "sent" "I" "TagField" ∈ tb := tb_of (List.mem_of_getElem? (i := 171) rfl) rfl
theorem wi_180 : Cond.superclass "TagField$Air" "java/lang/Object" ∈ tb := tb_of (List.mem_of_getElem? (i := 180) rfl) rfl
theorem wi_181 : Cond.classLink RX10 32 RX6 ∈ tb := tb_of (List.mem_of_getElem? (i := 181) rfl) rfl
theorem wi_182 : Cond.instantiable RX6 7 ∈ tb := tb_of (List.mem_of_getElem? (i := 182) rfl) rfl
theorem wi_183 : Cond.methodLinkNest RX10 34 yX6_init "TagField" ∈ tb := tb_of (List.mem_of_getElem? (i := 183) rfl) rfl
theorem wi_184 : Cond.instanceMethod yX6_init ∈ tb := tb_of (List.mem_of_getElem? (i := 184) rfl) rfl
theorem wi_185 : Cond.code yX6_init cX6_init 1 (none : Option Jvm.ClassFile.FieldType) ∈ tb := tb_of (List.mem_of_getElem? (i := 185) rfl) rfl
theorem wi_187 : Cond.classLink RX6 9 RX8 ∈ tb := tb_of (List.mem_of_getElem? (i := 187) rfl) rfl
theorem wi_188 : Cond.methodLink RX6 11 yX8_init ∈ tb := tb_of (List.mem_of_getElem? (i := 188) rfl) rfl
theorem wi_189 : Cond.classLink RX6 20 RX2 ∈ tb := tb_of (List.mem_of_getElem? (i := 189) rfl) rfl
theorem wi_190 : Cond.methodLinkNest RX6 22 yX2_init "TagField" ∈ tb := tb_of (List.mem_of_getElem? (i := 190) rfl) rfl
theorem wi_191 : Cond.fieldLink RX6 14 "TagField$Reader" "row" "LTagField$Row;" ∈ tb := tb_of (List.mem_of_getElem? (i := 191) rfl) rfl
theorem wi_192 : Cond.fieldLink RX6 23 "TagField$Reader" "heard" "LTagField$Answer;" ∈ tb := tb_of (List.mem_of_getElem? (i := 192) rfl) rfl
theorem wi_193 : Cond.fieldLink RX6 27 "TagField$Reader" "numbers" "[I" ∈ tb := tb_of (List.mem_of_getElem? (i := 193) rfl) rfl
theorem wi_194 : Cond.fieldLink RX6 31 "TagField$Reader" "sizes" "[I" ∈ tb := tb_of (List.mem_of_getElem? (i := 194) rfl) rfl
theorem wi_195 : Cond.fieldLink RX6 34 "TagField$Reader" "count" "I" ∈ tb := tb_of (List.mem_of_getElem? (i := 195) rfl) rfl
theorem wi_196 : Cond.fieldLinkNest RX10 113 "TagField$Reader" "count" "I" "TagField" ∈ tb := tb_of (List.mem_of_getElem? (i := 196) rfl) rfl
theorem wi_197 : Cond.fieldLink RX6 69 "TagField$Reader" "known" "J" ∈ tb := tb_of (List.mem_of_getElem? (i := 197) rfl) rfl
theorem wi_198 : Cond.fieldLink RX6 73 "TagField$Reader" "knownCount" "I" ∈ tb := tb_of (List.mem_of_getElem? (i := 198) rfl) rfl
theorem wi_213 : Cond.superclass "TagField$Reader" "java/lang/Object" ∈ tb := tb_of (List.mem_of_getElem? (i := 213) rfl) rfl
theorem wi_214 : Cond.fieldLink RX10 14 "TagField" "typed" "LTagField$Row;" ∈ tb := tb_of (List.mem_of_getElem? (i := 214) rfl) rfl
theorem wi_215 : Cond.fieldLink RX10 21 "TagField" "latest" "LTagField$Answer;" ∈ tb := tb_of (List.mem_of_getElem? (i := 215) rfl) rfl
theorem wi_216 : Cond.fieldLink RX10 28 "TagField" "air" "LTagField$Air;" ∈ tb := tb_of (List.mem_of_getElem? (i := 216) rfl) rfl
theorem wi_217 : Cond.fieldLink RX10 35 "TagField" "reader" "LTagField$Reader;" ∈ tb := tb_of (List.mem_of_getElem? (i := 217) rfl) rfl
theorem wi_226 : Cond.superclass "TagField" "java/lang/Object" ∈ tb := tb_of (List.mem_of_getElem? (i := 226) rfl) rfl
theorem wi_227 : Cond.methodLink RL 13 yX10_tag ∈ tb := tb_of (List.mem_of_getElem? (i := 227) rfl) rfl
theorem wi_228 : Cond.instanceMethod yX10_tag ∈ tb := tb_of (List.mem_of_getElem? (i := 228) rfl) rfl
theorem wi_229 : Cond.selects RX10 yX10_tag yX10_tag ∈ tb := tb_of (List.mem_of_getElem? (i := 229) rfl) rfl
theorem wi_230 : Cond.code yX10_tag cX10_tag 6 (some FieldType.int) ∈ tb := tb_of (List.mem_of_getElem? (i := 230) rfl) rfl
theorem wi_231 : Cond.classLink RX10 39 RX9 ∈ tb := tb_of (List.mem_of_getElem? (i := 231) rfl) rfl
theorem wi_232 : Cond.instantiable RX9 5 ∈ tb := tb_of (List.mem_of_getElem? (i := 232) rfl) rfl
theorem wi_233 : Cond.methodLink RX10 41 yX9_init ∈ tb := tb_of (List.mem_of_getElem? (i := 233) rfl) rfl
theorem wi_234 : Cond.instanceMethod yX9_init ∈ tb := tb_of (List.mem_of_getElem? (i := 234) rfl) rfl
theorem wi_235 : Cond.code yX9_init cX9_init 6 (none : Option Jvm.ClassFile.FieldType) ∈ tb := tb_of (List.mem_of_getElem? (i := 235) rfl) rfl
theorem wi_237 : Cond.methodLink RX9 29 yX9_shownAt ∈ tb := tb_of (List.mem_of_getElem? (i := 237) rfl) rfl
theorem wi_238 : Cond.static yX9_shownAt ∈ tb := tb_of (List.mem_of_getElem? (i := 238) rfl) rfl
theorem wi_239 : Cond.code yX9_shownAt cX9_shownAt 10 (some FieldType.long) ∈ tb := tb_of (List.mem_of_getElem? (i := 239) rfl) rfl
theorem wi_240 : Cond.constantLong RX9 33 (136) ∈ tb := tb_of (List.mem_of_getElem? (i := 240) rfl) rfl
theorem wi_241 : Cond.methodLink RX9 35 yX9_numberByte ∈ tb := tb_of (List.mem_of_getElem? (i := 241) rfl) rfl
theorem wi_242 : Cond.static yX9_numberByte ∈ tb := tb_of (List.mem_of_getElem? (i := 242) rfl) rfl
theorem wi_243 : Cond.code yX9_numberByte cX9_numberByte 5 (some FieldType.int) ∈ tb := tb_of (List.mem_of_getElem? (i := 243) rfl) rfl
theorem wi_244 : Cond.constantLong RX9 39 (255) ∈ tb := tb_of (List.mem_of_getElem? (i := 244) rfl) rfl
theorem wi_245 : Cond.fieldLink RX9 22 "TagField$Tag" "levels" "I" ∈ tb := tb_of (List.mem_of_getElem? (i := 245) rfl) rfl
theorem wi_246 : Cond.fieldLink RX9 25 "TagField$Tag" "shown" "[J" ∈ tb := tb_of (List.mem_of_getElem? (i := 246) rfl) rfl
theorem wi_247 : Cond.fieldLink RX9 9 "TagField$Tag" "away" "Z" ∈ tb := tb_of (List.mem_of_getElem? (i := 247) rfl) rfl
theorem wi_248 : Cond.fieldLink RX9 15 "TagField$Tag" "state" "I" ∈ tb := tb_of (List.mem_of_getElem? (i := 248) rfl) rfl
theorem wi_249 : Cond.fieldLink RX9 19 "TagField$Tag" "level" "I" ∈ tb := tb_of (List.mem_of_getElem? (i := 249) rfl) rfl
theorem wi_260 : Cond.superclass "TagField$Tag" "java/lang/Object" ∈ tb := tb_of (List.mem_of_getElem? (i := 260) rfl) rfl
theorem wi_261 : Cond.arrayClass .long ∈ tb := tb_of (List.mem_of_getElem? (i := 261) rfl) rfl
theorem wi_262 : Cond.methodLink RX10 44 yX9_looksUnfinished ∈ tb := tb_of (List.mem_of_getElem? (i := 262) rfl) rfl
theorem wi_263 : Cond.instanceMethod yX9_looksUnfinished ∈ tb := tb_of (List.mem_of_getElem? (i := 263) rfl) rfl
theorem wi_264 : Cond.selects RX9 yX9_looksUnfinished yX9_looksUnfinished ∈ tb := tb_of (List.mem_of_getElem? (i := 264) rfl) rfl
theorem wi_265 : Cond.code yX9_looksUnfinished cX9_looksUnfinished 1 (some FieldType.boolean) ∈ tb := tb_of (List.mem_of_getElem? (i := 265) rfl) rfl
theorem wi_266 : Cond.methodLink RX10 48 yX1_knowsNumberOf ∈ tb := tb_of (List.mem_of_getElem? (i := 266) rfl) rfl
theorem wi_267 : Cond.instanceMethod yX1_knowsNumberOf ∈ tb := tb_of (List.mem_of_getElem? (i := 267) rfl) rfl
theorem wi_268 : Cond.selects RX1 yX1_knowsNumberOf yX1_knowsNumberOf ∈ tb := tb_of (List.mem_of_getElem? (i := 268) rfl) rfl
theorem wi_269 : Cond.code yX1_knowsNumberOf cX1_knowsNumberOf 3 (some FieldType.boolean) ∈ tb := tb_of (List.mem_of_getElem? (i := 269) rfl) rfl
theorem wi_270 : Cond.methodLink RX1 27 yJx4a65c_size_8abf5 ∈ tb := tb_of (List.mem_of_getElem? (i := 270) rfl) rfl
theorem wi_271 : Cond.instanceMethod yJx4a65c_size_8abf5 ∈ tb := tb_of (List.mem_of_getElem? (i := 271) rfl) rfl
theorem wi_272 : Cond.selects RJx4a65c yJx4a65c_size_8abf5 yJx4a65c_size_8abf5 ∈ tb := tb_of (List.mem_of_getElem? (i := 272) rfl) rfl
theorem wi_273 : Cond.code yJx4a65c_size_8abf5 cJx4a65c_size_8abf5 1 (some FieldType.int) ∈ tb := tb_of (List.mem_of_getElem? (i := 273) rfl) rfl
theorem wi_274 : Cond.methodLink RX1 31 yJx4a65c_get_915e3 ∈ tb := tb_of (List.mem_of_getElem? (i := 274) rfl) rfl
theorem wi_275 : Cond.instanceMethod yJx4a65c_get_915e3 ∈ tb := tb_of (List.mem_of_getElem? (i := 275) rfl) rfl
theorem wi_276 : Cond.selects RJx4a65c yJx4a65c_get_915e3 yJx4a65c_get_915e3 ∈ tb := tb_of (List.mem_of_getElem? (i := 276) rfl) rfl
theorem wi_277 : Cond.code yJx4a65c_get_915e3 cJx4a65c_get_915e3 2 (some (FieldType.object "java/lang/Object")) ∈ tb := tb_of (List.mem_of_getElem? (i := 277) rfl) rfl
theorem wi_278 : Cond.methodLink RJx4a65c 118 yJ15_checkIndex_7cf53 ∈ tb := tb_of (List.mem_of_getElem? (i := 278) rfl) rfl
theorem wi_279 : Cond.static yJ15_checkIndex_7cf53 ∈ tb := tb_of (List.mem_of_getElem? (i := 279) rfl) rfl
theorem wi_280 : Cond.code yJ15_checkIndex_7cf53 cJ15_checkIndex_7cf53 2 (some FieldType.int) ∈ tb := tb_of (List.mem_of_getElem? (i := 280) rfl) rfl
theorem wi_281 : Cond.methodLink RJ15 105 yJ3_checkIndex_8e157 ∈ tb := tb_of (List.mem_of_getElem? (i := 281) rfl) rfl
theorem wi_282 : Cond.static yJ3_checkIndex_8e157 ∈ tb := tb_of (List.mem_of_getElem? (i := 282) rfl) rfl
theorem wi_283 : Cond.code yJ3_checkIndex_8e157 cJ3_checkIndex_8e157 3 (some FieldType.int) ∈ tb := tb_of (List.mem_of_getElem? (i := 283) rfl) rfl
theorem wi_284 : Cond.methodLink RJx4a65c 123 yJx4a65c_elementData_915e3 ∈ tb := tb_of (List.mem_of_getElem? (i := 284) rfl) rfl
theorem wi_285 : Cond.instanceMethod yJx4a65c_elementData_915e3 ∈ tb := tb_of (List.mem_of_getElem? (i := 285) rfl) rfl
theorem wi_286 : Cond.selects RJx4a65c yJx4a65c_elementData_915e3 yJx4a65c_elementData_915e3 ∈ tb := tb_of (List.mem_of_getElem? (i := 286) rfl) rfl
theorem wi_287 : Cond.code yJx4a65c_elementData_915e3 cJx4a65c_elementData_915e3 2 (some (FieldType.object "java/lang/Object")) ∈ tb := tb_of (List.mem_of_getElem? (i := 287) rfl) rfl
theorem wi_288 : Cond.classLink RX1 35 RX9 ∈ tb := tb_of (List.mem_of_getElem? (i := 288) rfl) rfl
theorem wi_289 : Cond.methodLink RX1 37 yX9_hasNumberOf ∈ tb := tb_of (List.mem_of_getElem? (i := 289) rfl) rfl
theorem wi_290 : Cond.instanceMethod yX9_hasNumberOf ∈ tb := tb_of (List.mem_of_getElem? (i := 290) rfl) rfl
theorem wi_291 : Cond.selects RX9 yX9_hasNumberOf yX9_hasNumberOf ∈ tb := tb_of (List.mem_of_getElem? (i := 291) rfl) rfl
theorem wi_292 : Cond.code yX9_hasNumberOf cX9_hasNumberOf 3 (some FieldType.boolean) ∈ tb := tb_of (List.mem_of_getElem? (i := 292) rfl) rfl
theorem wi_293 : Cond.methodLink RX10 52 yX1_count ∈ tb := tb_of (List.mem_of_getElem? (i := 293) rfl) rfl
theorem wi_294 : Cond.instanceMethod yX1_count ∈ tb := tb_of (List.mem_of_getElem? (i := 294) rfl) rfl
theorem wi_295 : Cond.selects RX1 yX1_count yX1_count ∈ tb := tb_of (List.mem_of_getElem? (i := 295) rfl) rfl
theorem wi_296 : Cond.code yX1_count cX1_count 1 (some FieldType.int) ∈ tb := tb_of (List.mem_of_getElem? (i := 296) rfl) rfl
theorem wi_297 : Cond.methodLink RX10 56 yX1_bring ∈ tb := tb_of (List.mem_of_getElem? (i := 297) rfl) rfl
theorem wi_298 : Cond.instanceMethod yX1_bring ∈ tb := tb_of (List.mem_of_getElem? (i := 298) rfl) rfl
theorem wi_299 : Cond.selects RX1 yX1_bring yX1_bring ∈ tb := tb_of (List.mem_of_getElem? (i := 299) rfl) rfl
theorem wi_300 : Cond.code yX1_bring cX1_bring 2 (some FieldType.int) ∈ tb := tb_of (List.mem_of_getElem? (i := 300) rfl) rfl
theorem wi_301 : Cond.methodLink RX1 41 yX9_beginAnew ∈ tb := tb_of (List.mem_of_getElem? (i := 301) rfl) rfl
theorem wi_302 : Cond.instanceMethod yX9_beginAnew ∈ tb := tb_of (List.mem_of_getElem? (i := 302) rfl) rfl
theorem wi_303 : Cond.selects RX9 yX9_beginAnew yX9_beginAnew ∈ tb := tb_of (List.mem_of_getElem? (i := 303) rfl) rfl
theorem wi_304 : Cond.code yX9_beginAnew cX9_beginAnew 2 (none : Option Jvm.ClassFile.FieldType) ∈ tb := tb_of (List.mem_of_getElem? (i := 304) rfl) rfl
theorem wi_305 : Cond.methodLink RX1 45 yJx4a65c_add_9ea2d ∈ tb := tb_of (List.mem_of_getElem? (i := 305) rfl) rfl
theorem wi_306 : Cond.instanceMethod yJx4a65c_add_9ea2d ∈ tb := tb_of (List.mem_of_getElem? (i := 306) rfl) rfl
theorem wi_307 : Cond.selects RJx4a65c yJx4a65c_add_9ea2d yJx4a65c_add_9ea2d ∈ tb := tb_of (List.mem_of_getElem? (i := 307) rfl) rfl
theorem wi_308 : Cond.code yJx4a65c_add_9ea2d cJx4a65c_add_9ea2d 2 (some FieldType.boolean) ∈ tb := tb_of (List.mem_of_getElem? (i := 308) rfl) rfl
theorem wi_309 : Cond.methodLink RJx4a65c 131 yJx4a65c_add_72be8 ∈ tb := tb_of (List.mem_of_getElem? (i := 309) rfl) rfl
theorem wi_311 : Cond.instanceMethod yJx4a65c_add_72be8 ∈ tb := tb_of (List.mem_of_getElem? (i := 311) rfl) rfl
theorem wi_312 : Cond.code yJx4a65c_add_72be8 cJx4a65c_add_72be8 4 (none : Option Jvm.ClassFile.FieldType) ∈ tb := tb_of (List.mem_of_getElem? (i := 312) rfl) rfl
theorem wi_313 : Cond.methodLink RJx4a65c 129 yJx4a65c_grow_d5877 ∈ tb := tb_of (List.mem_of_getElem? (i := 313) rfl) rfl
theorem wi_315 : Cond.instanceMethod yJx4a65c_grow_d5877 ∈ tb := tb_of (List.mem_of_getElem? (i := 315) rfl) rfl
theorem wi_316 : Cond.code yJx4a65c_grow_d5877 cJx4a65c_grow_d5877 1 (some (FieldType.array (FieldType.object "java/lang/Object"))) ∈ tb := tb_of (List.mem_of_getElem? (i := 316) rfl) rfl
theorem wi_317 : Cond.methodLink RJx4a65c 69 yJx4a65c_grow_92f84 ∈ tb := tb_of (List.mem_of_getElem? (i := 317) rfl) rfl
theorem wi_319 : Cond.instanceMethod yJx4a65c_grow_92f84 ∈ tb := tb_of (List.mem_of_getElem? (i := 319) rfl) rfl
theorem wi_320 : Cond.code yJx4a65c_grow_92f84 cJx4a65c_grow_92f84 4 (some (FieldType.array (FieldType.object "java/lang/Object"))) ∈ tb := tb_of (List.mem_of_getElem? (i := 320) rfl) rfl
theorem wi_321 : Cond.methodLink RJx4a65c 73 yJ8_newLength_cabcc ∈ tb := tb_of (List.mem_of_getElem? (i := 321) rfl) rfl
theorem wi_322 : Cond.static yJ8_newLength_cabcc ∈ tb := tb_of (List.mem_of_getElem? (i := 322) rfl) rfl
theorem wi_323 : Cond.code yJ8_newLength_cabcc cJ8_newLength_cabcc 4 (some FieldType.int) ∈ tb := tb_of (List.mem_of_getElem? (i := 323) rfl) rfl
theorem wi_324 : Cond.methodLink RJ8 194 yJ9_max_7cf53 ∈ tb := tb_of (List.mem_of_getElem? (i := 324) rfl) rfl
theorem wi_325 : Cond.static yJ9_max_7cf53 ∈ tb := tb_of (List.mem_of_getElem? (i := 325) rfl) rfl
theorem wi_326 : Cond.code yJ9_max_7cf53 cJ9_max_7cf53 2 (some FieldType.int) ∈ tb := tb_of (List.mem_of_getElem? (i := 326) rfl) rfl
theorem wi_327 : Cond.constant RJ8 200 (2147483639) ∈ tb := tb_of (List.mem_of_getElem? (i := 327) rfl) rfl
theorem wi_328 : Cond.methodLink RJ8 201 yJ8_hugeLength_7cf53 ∈ tb := tb_of (List.mem_of_getElem? (i := 328) rfl) rfl
theorem wi_329 : Cond.static yJ8_hugeLength_7cf53 ∈ tb := tb_of (List.mem_of_getElem? (i := 329) rfl) rfl
theorem wi_330 : Cond.code yJ8_hugeLength_7cf53 cJ8_hugeLength_7cf53 3 (some FieldType.int) ∈ tb := tb_of (List.mem_of_getElem? (i := 330) rfl) rfl
theorem wi_331 : Cond.methodLink RJx4a65c 66 yJ7_copyOf_1904c ∈ tb := tb_of (List.mem_of_getElem? (i := 331) rfl) rfl
theorem wi_332 : Cond.static yJ7_copyOf_1904c ∈ tb := tb_of (List.mem_of_getElem? (i := 332) rfl) rfl
theorem wi_333 : Cond.code yJ7_copyOf_1904c cJ7_copyOf_1904c 2 (some (FieldType.array (FieldType.object "java/lang/Object"))) ∈ tb := tb_of (List.mem_of_getElem? (i := 333) rfl) rfl
theorem wi_336 : Cond.sameMethod "java/lang/Object" "java/lang/Object" "getClass" "()Ljava/lang/Class;" ∈ tb := tb_of (List.mem_of_getElem? (i := 336) rfl) rfl
theorem wi_348 : Cond.native ⟨"java/lang/Object", "getClass", "()Ljava/lang/Class;"⟩ ∈ tb := tb_of (List.mem_of_getElem? (i := 348) rfl) rfl
theorem wi_349 : Cond.methodLink RJ7 300 yJ7_copyOf_6403c ∈ tb := tb_of (List.mem_of_getElem? (i := 349) rfl) rfl
theorem wi_350 : Cond.static yJ7_copyOf_6403c ∈ tb := tb_of (List.mem_of_getElem? (i := 350) rfl) rfl
theorem wi_351 : Cond.code yJ7_copyOf_6403c cJ7_copyOf_6403c 4 (some (FieldType.array (FieldType.object "java/lang/Object"))) ∈ tb := tb_of (List.mem_of_getElem? (i := 351) rfl) rfl
theorem wi_353 : Cond.arrayOver (.object "java/lang/Object") ∈ tb := tb_of (List.mem_of_getElem? (i := 353) rfl) rfl
theorem wi_355 : Cond.methodLink RJ7 304 yJ9_min_7cf53 ∈ tb := tb_of (List.mem_of_getElem? (i := 355) rfl) rfl
theorem wi_356 : Cond.static yJ9_min_7cf53 ∈ tb := tb_of (List.mem_of_getElem? (i := 356) rfl) rfl
theorem wi_357 : Cond.code yJ9_min_7cf53 cJ9_min_7cf53 2 (some FieldType.int) ∈ tb := tb_of (List.mem_of_getElem? (i := 357) rfl) rfl
theorem wi_360 : Cond.native ⟨"java/lang/System", "arraycopy", "(Ljava/lang/Object;ILjava/lang/Object;II)V"⟩ ∈ tb := tb_of (List.mem_of_getElem? (i := 360) rfl) rfl
theorem wi_361 : Cond.methodLink RJx4a65c 79 yJ9_max_7cf53 ∈ tb := tb_of (List.mem_of_getElem? (i := 361) rfl) rfl
theorem wi_363 : Cond.methodLink RL 18 yX10_out ∈ tb := tb_of (List.mem_of_getElem? (i := 363) rfl) rfl
theorem wi_364 : Cond.instanceMethod yX10_out ∈ tb := tb_of (List.mem_of_getElem? (i := 364) rfl) rfl
theorem wi_365 : Cond.selects RX10 yX10_out yX10_out ∈ tb := tb_of (List.mem_of_getElem? (i := 365) rfl) rfl
theorem wi_366 : Cond.code yX10_out cX10_out 3 (some FieldType.int) ∈ tb := tb_of (List.mem_of_getElem? (i := 366) rfl) rfl
theorem wi_367 : Cond.methodLink RX10 60 yX1_knows ∈ tb := tb_of (List.mem_of_getElem? (i := 367) rfl) rfl
theorem wi_368 : Cond.instanceMethod yX1_knows ∈ tb := tb_of (List.mem_of_getElem? (i := 368) rfl) rfl
theorem wi_369 : Cond.selects RX1 yX1_knows yX1_knows ∈ tb := tb_of (List.mem_of_getElem? (i := 369) rfl) rfl
theorem wi_370 : Cond.code yX1_knows cX1_knows 2 (some FieldType.boolean) ∈ tb := tb_of (List.mem_of_getElem? (i := 370) rfl) rfl
theorem wi_371 : Cond.methodLink RX10 64 yX1_move ∈ tb := tb_of (List.mem_of_getElem? (i := 371) rfl) rfl
theorem wi_372 : Cond.instanceMethod yX1_move ∈ tb := tb_of (List.mem_of_getElem? (i := 372) rfl) rfl
theorem wi_373 : Cond.selects RX1 yX1_move yX1_move ∈ tb := tb_of (List.mem_of_getElem? (i := 373) rfl) rfl
theorem wi_374 : Cond.code yX1_move cX1_move 3 (some FieldType.int) ∈ tb := tb_of (List.mem_of_getElem? (i := 374) rfl) rfl
theorem wi_375 : Cond.methodLink RX1 49 yX9_move ∈ tb := tb_of (List.mem_of_getElem? (i := 375) rfl) rfl
theorem wi_376 : Cond.instanceMethod yX9_move ∈ tb := tb_of (List.mem_of_getElem? (i := 376) rfl) rfl
theorem wi_377 : Cond.selects RX9 yX9_move yX9_move ∈ tb := tb_of (List.mem_of_getElem? (i := 377) rfl) rfl
theorem wi_378 : Cond.code yX9_move cX9_move 3 (some FieldType.boolean) ∈ tb := tb_of (List.mem_of_getElem? (i := 378) rfl) rfl
theorem wi_379 : Cond.methodLink RX9 41 yX9_beginAnew ∈ tb := tb_of (List.mem_of_getElem? (i := 379) rfl) rfl
theorem wi_380 : Cond.methodLink RL 23 yX10_field ∈ tb := tb_of (List.mem_of_getElem? (i := 380) rfl) rfl
theorem wi_381 : Cond.instanceMethod yX10_field ∈ tb := tb_of (List.mem_of_getElem? (i := 381) rfl) rfl
theorem wi_382 : Cond.selects RX10 yX10_field yX10_field ∈ tb := tb_of (List.mem_of_getElem? (i := 382) rfl) rfl
theorem wi_383 : Cond.code yX10_field cX10_field 2 (some FieldType.int) ∈ tb := tb_of (List.mem_of_getElem? (i := 383) rfl) rfl
theorem wi_384 : Cond.methodLink RX10 68 yX1_turn ∈ tb := tb_of (List.mem_of_getElem? (i := 384) rfl) rfl
theorem wi_385 : Cond.instanceMethod yX1_turn ∈ tb := tb_of (List.mem_of_getElem? (i := 385) rfl) rfl
theorem wi_386 : Cond.selects RX1 yX1_turn yX1_turn ∈ tb := tb_of (List.mem_of_getElem? (i := 386) rfl) rfl
theorem wi_387 : Cond.code yX1_turn cX1_turn 3 (some FieldType.int) ∈ tb := tb_of (List.mem_of_getElem? (i := 387) rfl) rfl
theorem wi_388 : Cond.methodLink RL 28 yX10_bits ∈ tb := tb_of (List.mem_of_getElem? (i := 388) rfl) rfl
theorem wi_389 : Cond.instanceMethod yX10_bits ∈ tb := tb_of (List.mem_of_getElem? (i := 389) rfl) rfl
theorem wi_390 : Cond.selects RX10 yX10_bits yX10_bits ∈ tb := tb_of (List.mem_of_getElem? (i := 390) rfl) rfl
theorem wi_391 : Cond.code yX10_bits cX10_bits 3 (some FieldType.int) ∈ tb := tb_of (List.mem_of_getElem? (i := 391) rfl) rfl
theorem wi_392 : Cond.methodLink RX10 72 yX8_hasRoomFor ∈ tb := tb_of (List.mem_of_getElem? (i := 392) rfl) rfl
theorem wi_393 : Cond.instanceMethod yX8_hasRoomFor ∈ tb := tb_of (List.mem_of_getElem? (i := 393) rfl) rfl
theorem wi_394 : Cond.selects RX8 yX8_hasRoomFor yX8_hasRoomFor ∈ tb := tb_of (List.mem_of_getElem? (i := 394) rfl) rfl
theorem wi_395 : Cond.code yX8_hasRoomFor cX8_hasRoomFor 2 (some FieldType.boolean) ∈ tb := tb_of (List.mem_of_getElem? (i := 395) rfl) rfl
theorem wi_396 : Cond.methodLink RX10 75 yX8_addBits ∈ tb := tb_of (List.mem_of_getElem? (i := 396) rfl) rfl
theorem wi_397 : Cond.instanceMethod yX8_addBits ∈ tb := tb_of (List.mem_of_getElem? (i := 397) rfl) rfl
theorem wi_398 : Cond.selects RX8 yX8_addBits yX8_addBits ∈ tb := tb_of (List.mem_of_getElem? (i := 398) rfl) rfl
theorem wi_399 : Cond.code yX8_addBits cX8_addBits 4 (none : Option Jvm.ClassFile.FieldType) ∈ tb := tb_of (List.mem_of_getElem? (i := 399) rfl) rfl
theorem wi_400 : Cond.methodLink RL 33 yX10_octet ∈ tb := tb_of (List.mem_of_getElem? (i := 400) rfl) rfl
theorem wi_401 : Cond.instanceMethod yX10_octet ∈ tb := tb_of (List.mem_of_getElem? (i := 401) rfl) rfl
theorem wi_402 : Cond.selects RX10 yX10_octet yX10_octet ∈ tb := tb_of (List.mem_of_getElem? (i := 402) rfl) rfl
theorem wi_403 : Cond.code yX10_octet cX10_octet 2 (some FieldType.int) ∈ tb := tb_of (List.mem_of_getElem? (i := 403) rfl) rfl
theorem wi_404 : Cond.methodLink RX10 83 yX8_addOctet ∈ tb := tb_of (List.mem_of_getElem? (i := 404) rfl) rfl
theorem wi_405 : Cond.instanceMethod yX8_addOctet ∈ tb := tb_of (List.mem_of_getElem? (i := 405) rfl) rfl
theorem wi_406 : Cond.selects RX8 yX8_addOctet yX8_addOctet ∈ tb := tb_of (List.mem_of_getElem? (i := 406) rfl) rfl
theorem wi_407 : Cond.code yX8_addOctet cX8_addOctet 2 (none : Option Jvm.ClassFile.FieldType) ∈ tb := tb_of (List.mem_of_getElem? (i := 407) rfl) rfl
theorem wi_408 : Cond.methodLink RX8 19 yX3_octetsOf ∈ tb := tb_of (List.mem_of_getElem? (i := 408) rfl) rfl
theorem wi_409 : Cond.static yX3_octetsOf ∈ tb := tb_of (List.mem_of_getElem? (i := 409) rfl) rfl
theorem wi_410 : Cond.code yX3_octetsOf cX3_octetsOf 10 (some FieldType.long) ∈ tb := tb_of (List.mem_of_getElem? (i := 410) rfl) rfl
theorem wi_411 : Cond.constantLong RX3 9 (255) ∈ tb := tb_of (List.mem_of_getElem? (i := 411) rfl) rfl
theorem wi_412 : Cond.methodLink RX3 11 yJ13_bitCount_95d88 ∈ tb := tb_of (List.mem_of_getElem? (i := 412) rfl) rfl
theorem wi_413 : Cond.static yJ13_bitCount_95d88 ∈ tb := tb_of (List.mem_of_getElem? (i := 413) rfl) rfl
theorem wi_414 : Cond.code yJ13_bitCount_95d88 cJ13_bitCount_95d88 2 (some FieldType.int) ∈ tb := tb_of (List.mem_of_getElem? (i := 414) rfl) rfl
theorem wi_415 : Cond.constantLong RJ13 314 (6148914691236517205) ∈ tb := tb_of (List.mem_of_getElem? (i := 415) rfl) rfl
theorem wi_416 : Cond.constantLong RJ13 316 (3689348814741910323) ∈ tb := tb_of (List.mem_of_getElem? (i := 416) rfl) rfl
theorem wi_417 : Cond.constantLong RJ13 318 (1085102592571150095) ∈ tb := tb_of (List.mem_of_getElem? (i := 417) rfl) rfl
theorem wi_418 : Cond.methodLink RX8 25 yX8_addBits ∈ tb := tb_of (List.mem_of_getElem? (i := 418) rfl) rfl
theorem wi_419 : Cond.methodLink RL 38 yX10_check ∈ tb := tb_of (List.mem_of_getElem? (i := 419) rfl) rfl
theorem wi_420 : Cond.instanceMethod yX10_check ∈ tb := tb_of (List.mem_of_getElem? (i := 420) rfl) rfl
theorem wi_421 : Cond.selects RX10 yX10_check yX10_check ∈ tb := tb_of (List.mem_of_getElem? (i := 421) rfl) rfl
theorem wi_422 : Cond.code yX10_check cX10_check 2 (some FieldType.int) ∈ tb := tb_of (List.mem_of_getElem? (i := 422) rfl) rfl
theorem wi_423 : Cond.methodLink RX10 86 yX8_beginsWithOctets ∈ tb := tb_of (List.mem_of_getElem? (i := 423) rfl) rfl
theorem wi_424 : Cond.instanceMethod yX8_beginsWithOctets ∈ tb := tb_of (List.mem_of_getElem? (i := 424) rfl) rfl
theorem wi_425 : Cond.selects RX8 yX8_beginsWithOctets yX8_beginsWithOctets ∈ tb := tb_of (List.mem_of_getElem? (i := 425) rfl) rfl
theorem wi_426 : Cond.code yX8_beginsWithOctets cX8_beginsWithOctets 3 (some FieldType.boolean) ∈ tb := tb_of (List.mem_of_getElem? (i := 426) rfl) rfl
theorem wi_427 : Cond.methodLink RX8 37 yX8_valueAt ∈ tb := tb_of (List.mem_of_getElem? (i := 427) rfl) rfl
theorem wi_428 : Cond.instanceMethod yX8_valueAt ∈ tb := tb_of (List.mem_of_getElem? (i := 428) rfl) rfl
theorem wi_429 : Cond.selects RX8 yX8_valueAt yX8_valueAt ∈ tb := tb_of (List.mem_of_getElem? (i := 429) rfl) rfl
theorem wi_430 : Cond.code yX8_valueAt cX8_valueAt 5 (some FieldType.int) ∈ tb := tb_of (List.mem_of_getElem? (i := 430) rfl) rfl
theorem wi_431 : Cond.methodLink RX8 41 yJ6_bitCount_0f7a4 ∈ tb := tb_of (List.mem_of_getElem? (i := 431) rfl) rfl
theorem wi_432 : Cond.static yJ6_bitCount_0f7a4 ∈ tb := tb_of (List.mem_of_getElem? (i := 432) rfl) rfl
theorem wi_433 : Cond.code yJ6_bitCount_0f7a4 cJ6_bitCount_0f7a4 1 (some FieldType.int) ∈ tb := tb_of (List.mem_of_getElem? (i := 433) rfl) rfl
theorem wi_434 : Cond.constant RJ6 265 (1431655765) ∈ tb := tb_of (List.mem_of_getElem? (i := 434) rfl) rfl
theorem wi_435 : Cond.constant RJ6 266 (858993459) ∈ tb := tb_of (List.mem_of_getElem? (i := 435) rfl) rfl
theorem wi_436 : Cond.constant RJ6 267 (252645135) ∈ tb := tb_of (List.mem_of_getElem? (i := 436) rfl) rfl
theorem wi_437 : Cond.methodLink RX10 89 yX8_addCheck ∈ tb := tb_of (List.mem_of_getElem? (i := 437) rfl) rfl
theorem wi_438 : Cond.instanceMethod yX8_addCheck ∈ tb := tb_of (List.mem_of_getElem? (i := 438) rfl) rfl
theorem wi_439 : Cond.selects RX8 yX8_addCheck yX8_addCheck ∈ tb := tb_of (List.mem_of_getElem? (i := 439) rfl) rfl
theorem wi_440 : Cond.code yX8_addCheck cX8_addCheck 2 (none : Option Jvm.ClassFile.FieldType) ∈ tb := tb_of (List.mem_of_getElem? (i := 440) rfl) rfl
theorem wi_441 : Cond.methodLink RX8 29 yX8_checkOf ∈ tb := tb_of (List.mem_of_getElem? (i := 441) rfl) rfl
theorem wi_442 : Cond.instanceMethod yX8_checkOf ∈ tb := tb_of (List.mem_of_getElem? (i := 442) rfl) rfl
theorem wi_443 : Cond.selects RX8 yX8_checkOf yX8_checkOf ∈ tb := tb_of (List.mem_of_getElem? (i := 443) rfl) rfl
theorem wi_444 : Cond.code yX8_checkOf cX8_checkOf 4 (some FieldType.int) ∈ tb := tb_of (List.mem_of_getElem? (i := 444) rfl) rfl
theorem wi_445 : Cond.methodLink RX8 46 yX3_checkStep ∈ tb := tb_of (List.mem_of_getElem? (i := 445) rfl) rfl
theorem wi_446 : Cond.static yX3_checkStep ∈ tb := tb_of (List.mem_of_getElem? (i := 446) rfl) rfl
theorem wi_447 : Cond.code yX3_checkStep cX3_checkStep 3 (some FieldType.int) ∈ tb := tb_of (List.mem_of_getElem? (i := 447) rfl) rfl
theorem wi_448 : Cond.constant RX3 17 (65535) ∈ tb := tb_of (List.mem_of_getElem? (i := 448) rfl) rfl
theorem wi_449 : Cond.methodLink RX8 33 yX8_addOctet ∈ tb := tb_of (List.mem_of_getElem? (i := 449) rfl) rfl
set_option maxRecDepth 20000 in
theorem wi_450 : Cond.methodLink RL 43 yX10_go ∈ tb := tb_of (List.mem_of_getElem? (i := 450) rfl) rfl
set_option maxRecDepth 20000 in
theorem wi_451 : Cond.instanceMethod yX10_go ∈ tb := tb_of (List.mem_of_getElem? (i := 451) rfl) rfl
set_option maxRecDepth 20000 in
theorem wi_452 : Cond.selects RX10 yX10_go yX10_go ∈ tb := tb_of (List.mem_of_getElem? (i := 452) rfl) rfl
set_option maxRecDepth 20000 in
theorem wi_453 : Cond.code yX10_go cX10_go 2 (some FieldType.int) ∈ tb := tb_of (List.mem_of_getElem? (i := 453) rfl) rfl
set_option maxRecDepth 20000 in
theorem wi_454 : Cond.methodLink RX10 92 yX1_send ∈ tb := tb_of (List.mem_of_getElem? (i := 454) rfl) rfl
set_option maxRecDepth 20000 in
theorem wi_455 : Cond.instanceMethod yX1_send ∈ tb := tb_of (List.mem_of_getElem? (i := 455) rfl) rfl
set_option maxRecDepth 20000 in
theorem wi_456 : Cond.selects RX1 yX1_send yX1_send ∈ tb := tb_of (List.mem_of_getElem? (i := 456) rfl) rfl
set_option maxRecDepth 20000 in
theorem wi_457 : Cond.code yX1_send cX1_send 5 (some FieldType.int) ∈ tb := tb_of (List.mem_of_getElem? (i := 457) rfl) rfl
set_option maxRecDepth 20000 in
theorem wi_458 : Cond.methodLink RX1 60 yX2_clear ∈ tb := tb_of (List.mem_of_getElem? (i := 458) rfl) rfl
set_option maxRecDepth 20000 in
theorem wi_459 : Cond.instanceMethod yX2_clear ∈ tb := tb_of (List.mem_of_getElem? (i := 459) rfl) rfl
set_option maxRecDepth 20000 in
theorem wi_460 : Cond.selects RX2 yX2_clear yX2_clear ∈ tb := tb_of (List.mem_of_getElem? (i := 460) rfl) rfl
set_option maxRecDepth 20000 in
theorem wi_461 : Cond.code yX2_clear cX2_clear 1 (none : Option Jvm.ClassFile.FieldType) ∈ tb := tb_of (List.mem_of_getElem? (i := 461) rfl) rfl
set_option maxRecDepth 20000 in
theorem wi_462 : Cond.methodLink RX1 65 yX4_read ∈ tb := tb_of (List.mem_of_getElem? (i := 462) rfl) rfl
set_option maxRecDepth 20000 in
theorem wi_463 : Cond.instanceMethod yX4_read ∈ tb := tb_of (List.mem_of_getElem? (i := 463) rfl) rfl
set_option maxRecDepth 20000 in
theorem wi_464 : Cond.selects RX4 yX4_read yX4_read ∈ tb := tb_of (List.mem_of_getElem? (i := 464) rfl) rfl
set_option maxRecDepth 20000 in
theorem wi_465 : Cond.code yX4_read cX4_read 5 (none : Option Jvm.ClassFile.FieldType) ∈ tb := tb_of (List.mem_of_getElem? (i := 465) rfl) rfl
set_option maxRecDepth 20000 in
theorem wi_466 : Cond.methodLink RX4 26 yX8_valueAt ∈ tb := tb_of (List.mem_of_getElem? (i := 466) rfl) rfl
set_option maxRecDepth 20000 in
theorem wi_467 : Cond.methodLink RX4 33 yX4_levelOf ∈ tb := tb_of (List.mem_of_getElem? (i := 467) rfl) rfl
set_option maxRecDepth 20000 in
theorem wi_468 : Cond.static yX4_levelOf ∈ tb := tb_of (List.mem_of_getElem? (i := 468) rfl) rfl
set_option maxRecDepth 20000 in
theorem wi_469 : Cond.code yX4_levelOf cX4_levelOf 2 (some FieldType.int) ∈ tb := tb_of (List.mem_of_getElem? (i := 469) rfl) rfl
set_option maxRecDepth 20000 in
theorem wi_470 : Cond.methodLink RX4 87 yX4_levelByte ∈ tb := tb_of (List.mem_of_getElem? (i := 470) rfl) rfl
set_option maxRecDepth 20000 in
theorem wi_471 : Cond.static yX4_levelByte ∈ tb := tb_of (List.mem_of_getElem? (i := 471) rfl) rfl
set_option maxRecDepth 20000 in
theorem wi_472 : Cond.code yX4_levelByte cX4_levelByte 1 (some FieldType.int) ∈ tb := tb_of (List.mem_of_getElem? (i := 472) rfl) rfl
set_option maxRecDepth 20000 in
theorem wi_473 : Cond.methodLink RX4 40 yX4_kindOfShort ∈ tb := tb_of (List.mem_of_getElem? (i := 473) rfl) rfl
set_option maxRecDepth 20000 in
theorem wi_474 : Cond.static yX4_kindOfShort ∈ tb := tb_of (List.mem_of_getElem? (i := 474) rfl) rfl
set_option maxRecDepth 20000 in
theorem wi_475 : Cond.code yX4_kindOfShort cX4_kindOfShort 1 (some (FieldType.object "TagField$Kind")) ∈ tb := tb_of (List.mem_of_getElem? (i := 475) rfl) rfl
set_option maxRecDepth 20000 in
theorem wi_480 : Cond.methodLink RX4 44 yX8_beginsWithOctets ∈ tb := tb_of (List.mem_of_getElem? (i := 480) rfl) rfl
set_option maxRecDepth 20000 in
theorem wi_483 : Cond.methodLink RX4 51 yX4_readTold ∈ tb := tb_of (List.mem_of_getElem? (i := 483) rfl) rfl
set_option maxRecDepth 20000 in
theorem wi_485 : Cond.instanceMethod yX4_readTold ∈ tb := tb_of (List.mem_of_getElem? (i := 485) rfl) rfl
set_option maxRecDepth 20000 in
theorem wi_486 : Cond.code yX4_readTold cX4_readTold 5 (none : Option Jvm.ClassFile.FieldType) ∈ tb := tb_of (List.mem_of_getElem? (i := 486) rfl) rfl
set_option maxRecDepth 20000 in
theorem wi_487 : Cond.methodLink RX4 55 yX8_checkOf ∈ tb := tb_of (List.mem_of_getElem? (i := 487) rfl) rfl
set_option maxRecDepth 20000 in
theorem wi_490 : Cond.methodLink RX4 61 yX4_kindOfCommand ∈ tb := tb_of (List.mem_of_getElem? (i := 490) rfl) rfl
set_option maxRecDepth 20000 in
theorem wi_492 : Cond.instanceMethod yX4_kindOfCommand ∈ tb := tb_of (List.mem_of_getElem? (i := 492) rfl) rfl
set_option maxRecDepth 20000 in
theorem wi_493 : Cond.code yX4_kindOfCommand cX4_kindOfCommand 3 (some (FieldType.object "TagField$Kind")) ∈ tb := tb_of (List.mem_of_getElem? (i := 493) rfl) rfl
set_option maxRecDepth 20000 in
theorem wi_500 : Cond.methodLink RX1 69 yX9_hear ∈ tb := tb_of (List.mem_of_getElem? (i := 500) rfl) rfl
set_option maxRecDepth 20000 in
theorem wi_501 : Cond.instanceMethod yX9_hear ∈ tb := tb_of (List.mem_of_getElem? (i := 501) rfl) rfl
set_option maxRecDepth 20000 in
theorem wi_502 : Cond.selects RX9 yX9_hear yX9_hear ∈ tb := tb_of (List.mem_of_getElem? (i := 502) rfl) rfl
set_option maxRecDepth 20000 in
theorem wi_503 : Cond.code yX9_hear cX9_hear 3 (some (FieldType.object "TagField$Reply")) ∈ tb := tb_of (List.mem_of_getElem? (i := 503) rfl) rfl
set_option maxRecDepth 20000 in
theorem wi_506 : Cond.methodLink RX9 59 yX9_becomeReady ∈ tb := tb_of (List.mem_of_getElem? (i := 506) rfl) rfl
set_option maxRecDepth 20000 in
theorem wi_508 : Cond.instanceMethod yX9_becomeReady ∈ tb := tb_of (List.mem_of_getElem? (i := 508) rfl) rfl
set_option maxRecDepth 20000 in
theorem wi_509 : Cond.code yX9_becomeReady cX9_becomeReady 2 (some (FieldType.object "TagField$Reply")) ∈ tb := tb_of (List.mem_of_getElem? (i := 509) rfl) rfl
set_option maxRecDepth 20000 in
theorem wi_512 : Cond.methodLink RX9 82 yX9_become ∈ tb := tb_of (List.mem_of_getElem? (i := 512) rfl) rfl
set_option maxRecDepth 20000 in
theorem wi_514 : Cond.instanceMethod yX9_become ∈ tb := tb_of (List.mem_of_getElem? (i := 514) rfl) rfl
set_option maxRecDepth 20000 in
theorem wi_515 : Cond.code yX9_become cX9_become 3 (some (FieldType.object "TagField$Reply")) ∈ tb := tb_of (List.mem_of_getElem? (i := 515) rfl) rfl
set_option maxRecDepth 20000 in
theorem wi_518 : Cond.methodLink RX9 69 yX9_hearReady ∈ tb := tb_of (List.mem_of_getElem? (i := 518) rfl) rfl
set_option maxRecDepth 20000 in
theorem wi_520 : Cond.instanceMethod yX9_hearReady ∈ tb := tb_of (List.mem_of_getElem? (i := 520) rfl) rfl
set_option maxRecDepth 20000 in
theorem wi_521 : Cond.code yX9_hearReady cX9_hearReady 3 (some (FieldType.object "TagField$Reply")) ∈ tb := tb_of (List.mem_of_getElem? (i := 521) rfl) rfl
set_option maxRecDepth 20000 in
theorem wi_523 : Cond.methodLink RX9 93 yX9_showsWhatIsTold ∈ tb := tb_of (List.mem_of_getElem? (i := 523) rfl) rfl
set_option maxRecDepth 20000 in
theorem wi_525 : Cond.instanceMethod yX9_showsWhatIsTold ∈ tb := tb_of (List.mem_of_getElem? (i := 525) rfl) rfl
set_option maxRecDepth 20000 in
theorem wi_526 : Cond.code yX9_showsWhatIsTold cX9_showsWhatIsTold 4 (some FieldType.boolean) ∈ tb := tb_of (List.mem_of_getElem? (i := 526) rfl) rfl
set_option maxRecDepth 20000 in
theorem wi_530 : Cond.methodLink RX9 103 yX9_becomeChosen ∈ tb := tb_of (List.mem_of_getElem? (i := 530) rfl) rfl
set_option maxRecDepth 20000 in
theorem wi_532 : Cond.instanceMethod yX9_becomeChosen ∈ tb := tb_of (List.mem_of_getElem? (i := 532) rfl) rfl
set_option maxRecDepth 20000 in
theorem wi_533 : Cond.code yX9_becomeChosen cX9_becomeChosen 1 (some (FieldType.object "TagField$Reply")) ∈ tb := tb_of (List.mem_of_getElem? (i := 533) rfl) rfl
set_option maxRecDepth 20000 in
theorem wi_538 : Cond.methodLink RX9 107 yX9_goBack ∈ tb := tb_of (List.mem_of_getElem? (i := 538) rfl) rfl
set_option maxRecDepth 20000 in
theorem wi_540 : Cond.instanceMethod yX9_goBack ∈ tb := tb_of (List.mem_of_getElem? (i := 540) rfl) rfl
set_option maxRecDepth 20000 in
theorem wi_541 : Cond.code yX9_goBack cX9_goBack 1 (some (FieldType.object "TagField$Reply")) ∈ tb := tb_of (List.mem_of_getElem? (i := 541) rfl) rfl
set_option maxRecDepth 20000 in
theorem wi_542 : Cond.methodLink RX9 73 yX9_hearActive ∈ tb := tb_of (List.mem_of_getElem? (i := 542) rfl) rfl
set_option maxRecDepth 20000 in
theorem wi_544 : Cond.instanceMethod yX9_hearActive ∈ tb := tb_of (List.mem_of_getElem? (i := 544) rfl) rfl
set_option maxRecDepth 20000 in
theorem wi_545 : Cond.code yX9_hearActive cX9_hearActive 2 (some (FieldType.object "TagField$Reply")) ∈ tb := tb_of (List.mem_of_getElem? (i := 545) rfl) rfl
set_option maxRecDepth 20000 in
theorem wi_553 : Cond.methodLink RX1 73 yX9_say ∈ tb := tb_of (List.mem_of_getElem? (i := 553) rfl) rfl
set_option maxRecDepth 20000 in
theorem wi_554 : Cond.instanceMethod yX9_say ∈ tb := tb_of (List.mem_of_getElem? (i := 554) rfl) rfl
set_option maxRecDepth 20000 in
theorem wi_555 : Cond.selects RX9 yX9_say yX9_say ∈ tb := tb_of (List.mem_of_getElem? (i := 555) rfl) rfl
set_option maxRecDepth 20000 in
theorem wi_556 : Cond.code yX9_say cX9_say 9 (none : Option Jvm.ClassFile.FieldType) ∈ tb := tb_of (List.mem_of_getElem? (i := 556) rfl) rfl
set_option maxRecDepth 20000 in
theorem wi_560 : Cond.sameMethod "TagField$Reply" "java/lang/Enum" "ordinal" "()I" ∈ tb := tb_of (List.mem_of_getElem? (i := 560) rfl) rfl
set_option maxRecDepth 20000 in
theorem wi_561 : Cond.declares yJx29ce0_ordinal_8abf5 ∈ tb := tb_of (List.mem_of_getElem? (i := 561) rfl) rfl
set_option maxRecDepth 20000 in
theorem wi_563 : Cond.instanceMethod yJx29ce0_ordinal_8abf5 ∈ tb := tb_of (List.mem_of_getElem? (i := 563) rfl) rfl
set_option maxRecDepth 20000 in
theorem wi_565 : Cond.methodLink RX9 142 yX3_octetsOf ∈ tb := tb_of (List.mem_of_getElem? (i := 565) rfl) rfl
set_option maxRecDepth 20000 in
theorem wi_566 : Cond.methodLink RX9 148 yX2_lay ∈ tb := tb_of (List.mem_of_getElem? (i := 566) rfl) rfl
set_option maxRecDepth 20000 in
theorem wi_567 : Cond.instanceMethod yX2_lay ∈ tb := tb_of (List.mem_of_getElem? (i := 567) rfl) rfl
set_option maxRecDepth 20000 in
theorem wi_568 : Cond.selects RX2 yX2_lay yX2_lay ∈ tb := tb_of (List.mem_of_getElem? (i := 568) rfl) rfl
set_option maxRecDepth 20000 in
theorem wi_569 : Cond.code yX2_lay cX2_lay 6 (none : Option Jvm.ClassFile.FieldType) ∈ tb := tb_of (List.mem_of_getElem? (i := 569) rfl) rfl
set_option maxRecDepth 20000 in
theorem wi_570 : Cond.constantLong RX2 22 (-1) ∈ tb := tb_of (List.mem_of_getElem? (i := 570) rfl) rfl
set_option maxRecDepth 20000 in
theorem wi_571 : Cond.methodLink RX2 24 yJ9_max_7cf53 ∈ tb := tb_of (List.mem_of_getElem? (i := 571) rfl) rfl
set_option maxRecDepth 20000 in
theorem wi_572 : Cond.constantLong RX9 154 (4) ∈ tb := tb_of (List.mem_of_getElem? (i := 572) rfl) rfl
set_option maxRecDepth 20000 in
theorem wi_573 : Cond.methodLink RX9 156 yX3_checkedOctetsOf ∈ tb := tb_of (List.mem_of_getElem? (i := 573) rfl) rfl
set_option maxRecDepth 20000 in
theorem wi_574 : Cond.static yX3_checkedOctetsOf ∈ tb := tb_of (List.mem_of_getElem? (i := 574) rfl) rfl
set_option maxRecDepth 20000 in
theorem wi_575 : Cond.code yX3_checkedOctetsOf cX3_checkedOctetsOf 5 (some FieldType.long) ∈ tb := tb_of (List.mem_of_getElem? (i := 575) rfl) rfl
set_option maxRecDepth 20000 in
theorem wi_576 : Cond.methodLink RX3 20 yX3_checkStep ∈ tb := tb_of (List.mem_of_getElem? (i := 576) rfl) rfl
set_option maxRecDepth 20000 in
theorem wi_577 : Cond.methodLink RX3 24 yX3_octetsOf ∈ tb := tb_of (List.mem_of_getElem? (i := 577) rfl) rfl
set_option maxRecDepth 20000 in
theorem wi_578 : Cond.constantLong RX9 159 (32) ∈ tb := tb_of (List.mem_of_getElem? (i := 578) rfl) rfl
set_option maxRecDepth 20000 in
theorem wi_579 : Cond.constantLong RX9 164 (194) ∈ tb := tb_of (List.mem_of_getElem? (i := 579) rfl) rfl
set_option maxRecDepth 20000 in
theorem wi_580 : Cond.methodLink RX10 96 yX8_clear ∈ tb := tb_of (List.mem_of_getElem? (i := 580) rfl) rfl
set_option maxRecDepth 20000 in
theorem wi_581 : Cond.instanceMethod yX8_clear ∈ tb := tb_of (List.mem_of_getElem? (i := 581) rfl) rfl
set_option maxRecDepth 20000 in
theorem wi_582 : Cond.selects RX8 yX8_clear yX8_clear ∈ tb := tb_of (List.mem_of_getElem? (i := 582) rfl) rfl
set_option maxRecDepth 20000 in
theorem wi_583 : Cond.code yX8_clear cX8_clear 1 (none : Option Jvm.ClassFile.FieldType) ∈ tb := tb_of (List.mem_of_getElem? (i := 583) rfl) rfl
set_option maxRecDepth 20000 in
theorem wi_584 : Cond.methodLink RL 47 yX10_answer ∈ tb := tb_of (List.mem_of_getElem? (i := 584) rfl) rfl
set_option maxRecDepth 20000 in
theorem wi_585 : Cond.instanceMethod yX10_answer ∈ tb := tb_of (List.mem_of_getElem? (i := 585) rfl) rfl
set_option maxRecDepth 20000 in
theorem wi_586 : Cond.selects RX10 yX10_answer yX10_answer ∈ tb := tb_of (List.mem_of_getElem? (i := 586) rfl) rfl
set_option maxRecDepth 20000 in
theorem wi_587 : Cond.code yX10_answer cX10_answer 2 (some FieldType.int) ∈ tb := tb_of (List.mem_of_getElem? (i := 587) rfl) rfl
set_option maxRecDepth 20000 in
theorem wi_588 : Cond.methodLink RX10 99 yX2_bitAt ∈ tb := tb_of (List.mem_of_getElem? (i := 588) rfl) rfl
set_option maxRecDepth 20000 in
theorem wi_589 : Cond.instanceMethod yX2_bitAt ∈ tb := tb_of (List.mem_of_getElem? (i := 589) rfl) rfl
set_option maxRecDepth 20000 in
theorem wi_590 : Cond.selects RX2 yX2_bitAt yX2_bitAt ∈ tb := tb_of (List.mem_of_getElem? (i := 590) rfl) rfl
set_option maxRecDepth 20000 in
theorem wi_591 : Cond.code yX2_bitAt cX2_bitAt 4 (some FieldType.int) ∈ tb := tb_of (List.mem_of_getElem? (i := 591) rfl) rfl
set_option maxRecDepth 20000 in
theorem wi_592 : Cond.methodLink RL 51 yX10_state ∈ tb := tb_of (List.mem_of_getElem? (i := 592) rfl) rfl
set_option maxRecDepth 20000 in
theorem wi_593 : Cond.instanceMethod yX10_state ∈ tb := tb_of (List.mem_of_getElem? (i := 593) rfl) rfl
set_option maxRecDepth 20000 in
theorem wi_594 : Cond.selects RX10 yX10_state yX10_state ∈ tb := tb_of (List.mem_of_getElem? (i := 594) rfl) rfl
set_option maxRecDepth 20000 in
theorem wi_595 : Cond.code yX10_state cX10_state 2 (some FieldType.int) ∈ tb := tb_of (List.mem_of_getElem? (i := 595) rfl) rfl
set_option maxRecDepth 20000 in
theorem wi_596 : Cond.methodLink RX10 103 yX1_stateOf ∈ tb := tb_of (List.mem_of_getElem? (i := 596) rfl) rfl
set_option maxRecDepth 20000 in
theorem wi_597 : Cond.instanceMethod yX1_stateOf ∈ tb := tb_of (List.mem_of_getElem? (i := 597) rfl) rfl
set_option maxRecDepth 20000 in
theorem wi_598 : Cond.selects RX1 yX1_stateOf yX1_stateOf ∈ tb := tb_of (List.mem_of_getElem? (i := 598) rfl) rfl
set_option maxRecDepth 20000 in
theorem wi_599 : Cond.code yX1_stateOf cX1_stateOf 2 (some FieldType.int) ∈ tb := tb_of (List.mem_of_getElem? (i := 599) rfl) rfl
set_option maxRecDepth 20000 in
theorem wi_600 : Cond.methodLink RX1 53 yX9_stateAndLevel ∈ tb := tb_of (List.mem_of_getElem? (i := 600) rfl) rfl
set_option maxRecDepth 20000 in
theorem wi_601 : Cond.instanceMethod yX9_stateAndLevel ∈ tb := tb_of (List.mem_of_getElem? (i := 601) rfl) rfl
set_option maxRecDepth 20000 in
theorem wi_602 : Cond.selects RX9 yX9_stateAndLevel yX9_stateAndLevel ∈ tb := tb_of (List.mem_of_getElem? (i := 602) rfl) rfl
set_option maxRecDepth 20000 in
theorem wi_603 : Cond.code yX9_stateAndLevel cX9_stateAndLevel 2 (some FieldType.int) ∈ tb := tb_of (List.mem_of_getElem? (i := 603) rfl) rfl
set_option maxRecDepth 20000 in
theorem wi_604 : Cond.methodLink RL 55 yX10_round ∈ tb := tb_of (List.mem_of_getElem? (i := 604) rfl) rfl
set_option maxRecDepth 20000 in
theorem wi_605 : Cond.instanceMethod yX10_round ∈ tb := tb_of (List.mem_of_getElem? (i := 605) rfl) rfl
set_option maxRecDepth 20000 in
theorem wi_606 : Cond.selects RX10 yX10_round yX10_round ∈ tb := tb_of (List.mem_of_getElem? (i := 606) rfl) rfl
set_option maxRecDepth 20000 in
theorem wi_607 : Cond.code yX10_round cX10_round 2 (some FieldType.int) ∈ tb := tb_of (List.mem_of_getElem? (i := 607) rfl) rfl
set_option maxRecDepth 20000 in
theorem wi_608 : Cond.methodLink RX10 106 yX6_forget ∈ tb := tb_of (List.mem_of_getElem? (i := 608) rfl) rfl
set_option maxRecDepth 20000 in
theorem wi_609 : Cond.instanceMethod yX6_forget ∈ tb := tb_of (List.mem_of_getElem? (i := 609) rfl) rfl
set_option maxRecDepth 20000 in
theorem wi_610 : Cond.selects RX6 yX6_forget yX6_forget ∈ tb := tb_of (List.mem_of_getElem? (i := 610) rfl) rfl
set_option maxRecDepth 20000 in
theorem wi_611 : Cond.code yX6_forget cX6_forget 1 (none : Option Jvm.ClassFile.FieldType) ∈ tb := tb_of (List.mem_of_getElem? (i := 611) rfl) rfl
set_option maxRecDepth 20000 in
theorem wi_612 : Cond.methodLink RX10 109 yX6_findOne ∈ tb := tb_of (List.mem_of_getElem? (i := 612) rfl) rfl
set_option maxRecDepth 20000 in
theorem wi_613 : Cond.instanceMethod yX6_findOne ∈ tb := tb_of (List.mem_of_getElem? (i := 613) rfl) rfl
set_option maxRecDepth 20000 in
theorem wi_614 : Cond.selects RX6 yX6_findOne yX6_findOne ∈ tb := tb_of (List.mem_of_getElem? (i := 614) rfl) rfl
set_option maxRecDepth 20000 in
theorem wi_615 : Cond.code yX6_findOne cX6_findOne 4 (some FieldType.boolean) ∈ tb := tb_of (List.mem_of_getElem? (i := 615) rfl) rfl
set_option maxRecDepth 20000 in
theorem wi_616 : Cond.methodLink RX6 38 yX8_clear ∈ tb := tb_of (List.mem_of_getElem? (i := 616) rfl) rfl
set_option maxRecDepth 20000 in
theorem wi_617 : Cond.methodLink RX6 41 yX8_addBits ∈ tb := tb_of (List.mem_of_getElem? (i := 617) rfl) rfl
set_option maxRecDepth 20000 in
theorem wi_618 : Cond.methodLink RX6 45 yX1_send ∈ tb := tb_of (List.mem_of_getElem? (i := 618) rfl) rfl
set_option maxRecDepth 20000 in
theorem wi_619 : Cond.methodLink RX6 51 yX6_searchLevel ∈ tb := tb_of (List.mem_of_getElem? (i := 619) rfl) rfl
set_option maxRecDepth 20000 in
theorem wi_621 : Cond.instanceMethod yX6_searchLevel ∈ tb := tb_of (List.mem_of_getElem? (i := 621) rfl) rfl
set_option maxRecDepth 20000 in
theorem wi_622 : Cond.code yX6_searchLevel cX6_searchLevel 4 (some FieldType.boolean) ∈ tb := tb_of (List.mem_of_getElem? (i := 622) rfl) rfl
set_option maxRecDepth 20000 in
theorem wi_623 : Cond.methodLink RX6 76 yX6_layOutSearch ∈ tb := tb_of (List.mem_of_getElem? (i := 623) rfl) rfl
set_option maxRecDepth 20000 in
theorem wi_625 : Cond.instanceMethod yX6_layOutSearch ∈ tb := tb_of (List.mem_of_getElem? (i := 625) rfl) rfl
set_option maxRecDepth 20000 in
theorem wi_626 : Cond.code yX6_layOutSearch cX6_layOutSearch 5 (none : Option Jvm.ClassFile.FieldType) ∈ tb := tb_of (List.mem_of_getElem? (i := 626) rfl) rfl
set_option maxRecDepth 20000 in
theorem wi_627 : Cond.methodLink RX6 82 yX4_levelByte ∈ tb := tb_of (List.mem_of_getElem? (i := 627) rfl) rfl
set_option maxRecDepth 20000 in
theorem wi_628 : Cond.methodLink RX6 88 yX8_addOctet ∈ tb := tb_of (List.mem_of_getElem? (i := 628) rfl) rfl
set_option maxRecDepth 20000 in
theorem wi_629 : Cond.methodLink RX6 91 yX6_knownByte ∈ tb := tb_of (List.mem_of_getElem? (i := 629) rfl) rfl
set_option maxRecDepth 20000 in
theorem wi_631 : Cond.instanceMethod yX6_knownByte ∈ tb := tb_of (List.mem_of_getElem? (i := 631) rfl) rfl
set_option maxRecDepth 20000 in
theorem wi_632 : Cond.code yX6_knownByte cX6_knownByte 2 (some FieldType.int) ∈ tb := tb_of (List.mem_of_getElem? (i := 632) rfl) rfl
set_option maxRecDepth 20000 in
theorem wi_633 : Cond.methodLink RX6 79 yX6_learn ∈ tb := tb_of (List.mem_of_getElem? (i := 633) rfl) rfl
set_option maxRecDepth 20000 in
theorem wi_635 : Cond.instanceMethod yX6_learn ∈ tb := tb_of (List.mem_of_getElem? (i := 635) rfl) rfl
set_option maxRecDepth 20000 in
theorem wi_636 : Cond.code yX6_learn cX6_learn 4 (none : Option Jvm.ClassFile.FieldType) ∈ tb := tb_of (List.mem_of_getElem? (i := 636) rfl) rfl
set_option maxRecDepth 20000 in
theorem wi_637 : Cond.methodLink RX6 94 yX2_bitAt ∈ tb := tb_of (List.mem_of_getElem? (i := 637) rfl) rfl
set_option maxRecDepth 20000 in
theorem wi_638 : Cond.methodLink RX6 55 yX6_choose ∈ tb := tb_of (List.mem_of_getElem? (i := 638) rfl) rfl
set_option maxRecDepth 20000 in
theorem wi_640 : Cond.instanceMethod yX6_choose ∈ tb := tb_of (List.mem_of_getElem? (i := 640) rfl) rfl
set_option maxRecDepth 20000 in
theorem wi_641 : Cond.code yX6_choose cX6_choose 4 (some FieldType.boolean) ∈ tb := tb_of (List.mem_of_getElem? (i := 641) rfl) rfl
set_option maxRecDepth 20000 in
theorem wi_642 : Cond.methodLink RX6 97 yX8_addCheck ∈ tb := tb_of (List.mem_of_getElem? (i := 642) rfl) rfl
set_option maxRecDepth 20000 in
theorem wi_643 : Cond.methodLink RX6 58 yX2_beginsWith ∈ tb := tb_of (List.mem_of_getElem? (i := 643) rfl) rfl
set_option maxRecDepth 20000 in
theorem wi_644 : Cond.instanceMethod yX2_beginsWith ∈ tb := tb_of (List.mem_of_getElem? (i := 644) rfl) rfl
set_option maxRecDepth 20000 in
theorem wi_645 : Cond.selects RX2 yX2_beginsWith yX2_beginsWith ∈ tb := tb_of (List.mem_of_getElem? (i := 645) rfl) rfl
set_option maxRecDepth 20000 in
theorem wi_646 : Cond.code yX2_beginsWith cX2_beginsWith 2 (some FieldType.boolean) ∈ tb := tb_of (List.mem_of_getElem? (i := 646) rfl) rfl
set_option maxRecDepth 20000 in
theorem wi_647 : Cond.constantLong RX2 30 (255) ∈ tb := tb_of (List.mem_of_getElem? (i := 647) rfl) rfl
set_option maxRecDepth 20000 in
theorem wi_648 : Cond.methodLink RX6 62 yX6_keepBytes ∈ tb := tb_of (List.mem_of_getElem? (i := 648) rfl) rfl
set_option maxRecDepth 20000 in
theorem wi_650 : Cond.instanceMethod yX6_keepBytes ∈ tb := tb_of (List.mem_of_getElem? (i := 650) rfl) rfl
set_option maxRecDepth 20000 in
theorem wi_651 : Cond.code yX6_keepBytes cX6_keepBytes 3 (none : Option Jvm.ClassFile.FieldType) ∈ tb := tb_of (List.mem_of_getElem? (i := 651) rfl) rfl
set_option maxRecDepth 20000 in
theorem wi_652 : Cond.methodLink RX6 65 yX6_halt ∈ tb := tb_of (List.mem_of_getElem? (i := 652) rfl) rfl
set_option maxRecDepth 20000 in
theorem wi_654 : Cond.instanceMethod yX6_halt ∈ tb := tb_of (List.mem_of_getElem? (i := 654) rfl) rfl
set_option maxRecDepth 20000 in
theorem wi_655 : Cond.code yX6_halt cX6_halt 2 (none : Option Jvm.ClassFile.FieldType) ∈ tb := tb_of (List.mem_of_getElem? (i := 655) rfl) rfl
set_option maxRecDepth 20000 in
theorem wi_656 : Cond.methodLink RL 59 yX10_found ∈ tb := tb_of (List.mem_of_getElem? (i := 656) rfl) rfl
set_option maxRecDepth 20000 in
theorem wi_657 : Cond.instanceMethod yX10_found ∈ tb := tb_of (List.mem_of_getElem? (i := 657) rfl) rfl
set_option maxRecDepth 20000 in
theorem wi_658 : Cond.selects RX10 yX10_found yX10_found ∈ tb := tb_of (List.mem_of_getElem? (i := 658) rfl) rfl
set_option maxRecDepth 20000 in
theorem wi_659 : Cond.code yX10_found cX10_found 3 (some FieldType.int) ∈ tb := tb_of (List.mem_of_getElem? (i := 659) rfl) rfl
set_option maxRecDepth 20000 in
theorem wi_660 : Cond.methodLink RX10 115 yX6_byteFound ∈ tb := tb_of (List.mem_of_getElem? (i := 660) rfl) rfl
set_option maxRecDepth 20000 in
theorem wi_661 : Cond.instanceMethod yX6_byteFound ∈ tb := tb_of (List.mem_of_getElem? (i := 661) rfl) rfl
set_option maxRecDepth 20000 in
theorem wi_662 : Cond.selects RX6 yX6_byteFound yX6_byteFound ∈ tb := tb_of (List.mem_of_getElem? (i := 662) rfl) rfl
set_option maxRecDepth 20000 in
theorem wi_663 : Cond.code yX6_byteFound cX6_byteFound 3 (some FieldType.int) ∈ tb := tb_of (List.mem_of_getElem? (i := 663) rfl) rfl
set_option maxRecDepth 20000 in
theorem wi_664 : Cond.methodLink RL 63 yX10_frames ∈ tb := tb_of (List.mem_of_getElem? (i := 664) rfl) rfl
set_option maxRecDepth 20000 in
theorem wi_665 : Cond.instanceMethod yX10_frames ∈ tb := tb_of (List.mem_of_getElem? (i := 665) rfl) rfl
set_option maxRecDepth 20000 in
theorem wi_666 : Cond.selects RX10 yX10_frames yX10_frames ∈ tb := tb_of (List.mem_of_getElem? (i := 666) rfl) rfl
set_option maxRecDepth 20000 in
theorem wi_667 : Cond.code yX10_frames cX10_frames 1 (some FieldType.int) ∈ tb := tb_of (List.mem_of_getElem? (i := 667) rfl) rfl
set_option maxRecDepth 20000 in
theorem wi_668 : Cond.classLink RL 10 RX11 ∈ tb := tb_of (List.mem_of_getElem? (i := 668) rfl) rfl
set_option maxRecDepth 20000 in
theorem wi_669 : Cond.instantiable RX11 29 ∈ tb := tb_of (List.mem_of_getElem? (i := 669) rfl) rfl
set_option maxRecDepth 20000 in
theorem wi_670 : Cond.methodLink RL 12 yX11_init ∈ tb := tb_of (List.mem_of_getElem? (i := 670) rfl) rfl
set_option maxRecDepth 20000 in
theorem wi_671 : Cond.instanceMethod yX11_init ∈ tb := tb_of (List.mem_of_getElem? (i := 671) rfl) rfl
set_option maxRecDepth 20000 in
theorem wi_672 : Cond.code yX11_init cX11_init 1 (none : Option Jvm.ClassFile.FieldType) ∈ tb := tb_of (List.mem_of_getElem? (i := 672) rfl) rfl
set_option maxRecDepth 20000 in
theorem wi_674 : Cond.fieldLink RX11 67 "TagFieldModel" "tags" "I" ∈ tb := tb_of (List.mem_of_getElem? (i := 674) rfl) rfl
set_option maxRecDepth 20000 in
theorem wi_675 : Cond.fieldLink RX11 7 "TagFieldModel" "size" "[I" ∈ tb := tb_of (List.mem_of_getElem? (i := 675) rfl) rfl
set_option maxRecDepth 20000 in
theorem wi_676 : Cond.fieldLink RX11 13 "TagFieldModel" "number" "[I" ∈ tb := tb_of (List.mem_of_getElem? (i := 676) rfl) rfl
set_option maxRecDepth 20000 in
theorem wi_677 : Cond.fieldLink RX11 16 "TagFieldModel" "gone" "[Z" ∈ tb := tb_of (List.mem_of_getElem? (i := 677) rfl) rfl
set_option maxRecDepth 20000 in
theorem wi_678 : Cond.fieldLink RX11 20 "TagFieldModel" "state" "[I" ∈ tb := tb_of (List.mem_of_getElem? (i := 678) rfl) rfl
set_option maxRecDepth 20000 in
theorem wi_679 : Cond.fieldLink RX11 23 "TagFieldModel" "level" "[I" ∈ tb := tb_of (List.mem_of_getElem? (i := 679) rfl) rfl
set_option maxRecDepth 20000 in
theorem wi_680 : Cond.fieldLink RX11 26 "TagFieldModel" "shown" "[I" ∈ tb := tb_of (List.mem_of_getElem? (i := 680) rfl) rfl
set_option maxRecDepth 20000 in
theorem wi_681 : Cond.fieldLink RX11 29 "TagFieldModel" "on" "Z" ∈ tb := tb_of (List.mem_of_getElem? (i := 681) rfl) rfl
set_option maxRecDepth 20000 in
theorem wi_682 : Cond.fieldLink RX11 79 "TagFieldModel" "typed" "I" ∈ tb := tb_of (List.mem_of_getElem? (i := 682) rfl) rfl
set_option maxRecDepth 20000 in
theorem wi_683 : Cond.fieldLink RX11 33 "TagFieldModel" "typedBits" "[I" ∈ tb := tb_of (List.mem_of_getElem? (i := 683) rfl) rfl
set_option maxRecDepth 20000 in
theorem wi_684 : Cond.fieldLink RX11 104 "TagFieldModel" "sent" "I" ∈ tb := tb_of (List.mem_of_getElem? (i := 684) rfl) rfl
set_option maxRecDepth 20000 in
theorem wi_685 : Cond.fieldLink RX11 36 "TagFieldModel" "sentBits" "[I" ∈ tb := tb_of (List.mem_of_getElem? (i := 685) rfl) rfl
set_option maxRecDepth 20000 in
theorem wi_686 : Cond.fieldLink RX11 39 "TagFieldModel" "sentBytes" "[I" ∈ tb := tb_of (List.mem_of_getElem? (i := 686) rfl) rfl
set_option maxRecDepth 20000 in
theorem wi_687 : Cond.fieldLink RX11 98 "TagFieldModel" "kind" "I" ∈ tb := tb_of (List.mem_of_getElem? (i := 687) rfl) rfl
set_option maxRecDepth 20000 in
theorem wi_688 : Cond.fieldLink RX11 107 "TagFieldModel" "kindLevel" "I" ∈ tb := tb_of (List.mem_of_getElem? (i := 688) rfl) rfl
set_option maxRecDepth 20000 in
theorem wi_689 : Cond.fieldLink RX11 101 "TagFieldModel" "told" "I" ∈ tb := tb_of (List.mem_of_getElem? (i := 689) rfl) rfl
set_option maxRecDepth 20000 in
theorem wi_690 : Cond.fieldLink RX11 42 "TagFieldModel" "toldBits" "[I" ∈ tb := tb_of (List.mem_of_getElem? (i := 690) rfl) rfl
set_option maxRecDepth 20000 in
theorem wi_691 : Cond.fieldLink RX11 110 "TagFieldModel" "said" "I" ∈ tb := tb_of (List.mem_of_getElem? (i := 691) rfl) rfl
set_option maxRecDepth 20000 in
theorem wi_692 : Cond.fieldLink RX11 45 "TagFieldModel" "saidBits" "[I" ∈ tb := tb_of (List.mem_of_getElem? (i := 692) rfl) rfl
set_option maxRecDepth 20000 in
theorem wi_693 : Cond.fieldLink RX11 139 "TagFieldModel" "heard" "I" ∈ tb := tb_of (List.mem_of_getElem? (i := 693) rfl) rfl
set_option maxRecDepth 20000 in
theorem wi_694 : Cond.fieldLink RX11 48 "TagFieldModel" "heardBits" "[I" ∈ tb := tb_of (List.mem_of_getElem? (i := 694) rfl) rfl
set_option maxRecDepth 20000 in
theorem wi_695 : Cond.fieldLink RX11 151 "TagFieldModel" "answered" "I" ∈ tb := tb_of (List.mem_of_getElem? (i := 695) rfl) rfl
set_option maxRecDepth 20000 in
theorem wi_696 : Cond.fieldLink RX11 51 "TagFieldModel" "answerBits" "[I" ∈ tb := tb_of (List.mem_of_getElem? (i := 696) rfl) rfl
set_option maxRecDepth 20000 in
theorem wi_697 : Cond.fieldLink RX11 136 "TagFieldModel" "frames" "I" ∈ tb := tb_of (List.mem_of_getElem? (i := 697) rfl) rfl
set_option maxRecDepth 20000 in
theorem wi_698 : Cond.fieldLink RX11 169 "TagFieldModel" "founds" "I" ∈ tb := tb_of (List.mem_of_getElem? (i := 698) rfl) rfl
set_option maxRecDepth 20000 in
theorem wi_699 : Cond.fieldLink RX11 54 "TagFieldModel" "foundSize" "[I" ∈ tb := tb_of (List.mem_of_getElem? (i := 699) rfl) rfl
set_option maxRecDepth 20000 in
theorem wi_700 : Cond.fieldLink RX11 57 "TagFieldModel" "foundBytes" "[I" ∈ tb := tb_of (List.mem_of_getElem? (i := 700) rfl) rfl
set_option maxRecDepth 20000 in
theorem wi_701 : Cond.fieldLink RX11 157 "TagFieldModel" "known" "I" ∈ tb := tb_of (List.mem_of_getElem? (i := 701) rfl) rfl
set_option maxRecDepth 20000 in
theorem wi_702 : Cond.fieldLink RX11 60 "TagFieldModel" "knownBits" "[I" ∈ tb := tb_of (List.mem_of_getElem? (i := 702) rfl) rfl
set_option maxRecDepth 20000 in
theorem wi_761 : Cond.superclass "TagFieldModel" "java/lang/Object" ∈ tb := tb_of (List.mem_of_getElem? (i := 761) rfl) rfl
set_option maxRecDepth 20000 in
theorem wi_762 : Cond.arrayClass .boolean ∈ tb := tb_of (List.mem_of_getElem? (i := 762) rfl) rfl
set_option maxRecDepth 20000 in
theorem wi_763 : Cond.methodLink RL 17 yX11_tag ∈ tb := tb_of (List.mem_of_getElem? (i := 763) rfl) rfl
set_option maxRecDepth 20000 in
theorem wi_764 : Cond.instanceMethod yX11_tag ∈ tb := tb_of (List.mem_of_getElem? (i := 764) rfl) rfl
set_option maxRecDepth 20000 in
theorem wi_765 : Cond.selects RX11 yX11_tag yX11_tag ∈ tb := tb_of (List.mem_of_getElem? (i := 765) rfl) rfl
set_option maxRecDepth 20000 in
theorem wi_766 : Cond.code yX11_tag cX11_tag 10 (some FieldType.int) ∈ tb := tb_of (List.mem_of_getElem? (i := 766) rfl) rfl
set_option maxRecDepth 20000 in
theorem wi_767 : Cond.methodLink RX11 63 yX11_byteFrom ∈ tb := tb_of (List.mem_of_getElem? (i := 767) rfl) rfl
set_option maxRecDepth 20000 in
theorem wi_769 : Cond.instanceMethod yX11_byteFrom ∈ tb := tb_of (List.mem_of_getElem? (i := 769) rfl) rfl
set_option maxRecDepth 20000 in
theorem wi_770 : Cond.code yX11_byteFrom cX11_byteFrom 6 (some FieldType.int) ∈ tb := tb_of (List.mem_of_getElem? (i := 770) rfl) rfl
set_option maxRecDepth 20000 in
theorem wi_771 : Cond.methodLink RX11 71 yX11_show ∈ tb := tb_of (List.mem_of_getElem? (i := 771) rfl) rfl
set_option maxRecDepth 20000 in
theorem wi_773 : Cond.instanceMethod yX11_show ∈ tb := tb_of (List.mem_of_getElem? (i := 773) rfl) rfl
set_option maxRecDepth 20000 in
theorem wi_774 : Cond.code yX11_show cX11_show 10 (none : Option Jvm.ClassFile.FieldType) ∈ tb := tb_of (List.mem_of_getElem? (i := 774) rfl) rfl
set_option maxRecDepth 20000 in
theorem wi_775 : Cond.methodLink RL 22 yX11_out ∈ tb := tb_of (List.mem_of_getElem? (i := 775) rfl) rfl
set_option maxRecDepth 20000 in
theorem wi_776 : Cond.instanceMethod yX11_out ∈ tb := tb_of (List.mem_of_getElem? (i := 776) rfl) rfl
set_option maxRecDepth 20000 in
theorem wi_777 : Cond.selects RX11 yX11_out yX11_out ∈ tb := tb_of (List.mem_of_getElem? (i := 777) rfl) rfl
set_option maxRecDepth 20000 in
theorem wi_778 : Cond.code yX11_out cX11_out 3 (some FieldType.int) ∈ tb := tb_of (List.mem_of_getElem? (i := 778) rfl) rfl
set_option maxRecDepth 20000 in
theorem wi_779 : Cond.methodLink RX11 75 yX11_isTag ∈ tb := tb_of (List.mem_of_getElem? (i := 779) rfl) rfl
set_option maxRecDepth 20000 in
theorem wi_781 : Cond.instanceMethod yX11_isTag ∈ tb := tb_of (List.mem_of_getElem? (i := 781) rfl) rfl
set_option maxRecDepth 20000 in
theorem wi_782 : Cond.code yX11_isTag cX11_isTag 2 (some FieldType.boolean) ∈ tb := tb_of (List.mem_of_getElem? (i := 782) rfl) rfl
set_option maxRecDepth 20000 in
theorem wi_783 : Cond.methodLink RL 27 yX11_field ∈ tb := tb_of (List.mem_of_getElem? (i := 783) rfl) rfl
set_option maxRecDepth 20000 in
theorem wi_784 : Cond.instanceMethod yX11_field ∈ tb := tb_of (List.mem_of_getElem? (i := 784) rfl) rfl
set_option maxRecDepth 20000 in
theorem wi_785 : Cond.selects RX11 yX11_field yX11_field ∈ tb := tb_of (List.mem_of_getElem? (i := 785) rfl) rfl
set_option maxRecDepth 20000 in
theorem wi_786 : Cond.code yX11_field cX11_field 3 (some FieldType.int) ∈ tb := tb_of (List.mem_of_getElem? (i := 786) rfl) rfl
set_option maxRecDepth 20000 in
theorem wi_787 : Cond.methodLink RL 32 yX11_bits ∈ tb := tb_of (List.mem_of_getElem? (i := 787) rfl) rfl
set_option maxRecDepth 20000 in
theorem wi_788 : Cond.instanceMethod yX11_bits ∈ tb := tb_of (List.mem_of_getElem? (i := 788) rfl) rfl
set_option maxRecDepth 20000 in
theorem wi_789 : Cond.selects RX11 yX11_bits yX11_bits ∈ tb := tb_of (List.mem_of_getElem? (i := 789) rfl) rfl
set_option maxRecDepth 20000 in
theorem wi_790 : Cond.code yX11_bits cX11_bits 4 (some FieldType.int) ∈ tb := tb_of (List.mem_of_getElem? (i := 790) rfl) rfl
set_option maxRecDepth 20000 in
theorem wi_791 : Cond.methodLink RL 37 yX11_octet ∈ tb := tb_of (List.mem_of_getElem? (i := 791) rfl) rfl
set_option maxRecDepth 20000 in
theorem wi_792 : Cond.instanceMethod yX11_octet ∈ tb := tb_of (List.mem_of_getElem? (i := 792) rfl) rfl
set_option maxRecDepth 20000 in
theorem wi_793 : Cond.selects RX11 yX11_octet yX11_octet ∈ tb := tb_of (List.mem_of_getElem? (i := 793) rfl) rfl
set_option maxRecDepth 20000 in
theorem wi_794 : Cond.code yX11_octet cX11_octet 2 (some FieldType.int) ∈ tb := tb_of (List.mem_of_getElem? (i := 794) rfl) rfl
set_option maxRecDepth 20000 in
theorem wi_795 : Cond.methodLink RX11 86 yX11_type ∈ tb := tb_of (List.mem_of_getElem? (i := 795) rfl) rfl
set_option maxRecDepth 20000 in
theorem wi_797 : Cond.instanceMethod yX11_type ∈ tb := tb_of (List.mem_of_getElem? (i := 797) rfl) rfl
set_option maxRecDepth 20000 in
theorem wi_798 : Cond.code yX11_type cX11_type 3 (some FieldType.int) ∈ tb := tb_of (List.mem_of_getElem? (i := 798) rfl) rfl
set_option maxRecDepth 20000 in
theorem wi_799 : Cond.methodLink RX11 82 yX11_parity ∈ tb := tb_of (List.mem_of_getElem? (i := 799) rfl) rfl
set_option maxRecDepth 20000 in
theorem wi_800 : Cond.static yX11_parity ∈ tb := tb_of (List.mem_of_getElem? (i := 800) rfl) rfl
set_option maxRecDepth 20000 in
theorem wi_801 : Cond.code yX11_parity cX11_parity 3 (some FieldType.int) ∈ tb := tb_of (List.mem_of_getElem? (i := 801) rfl) rfl
set_option maxRecDepth 20000 in
theorem wi_802 : Cond.methodLink RL 42 yX11_check ∈ tb := tb_of (List.mem_of_getElem? (i := 802) rfl) rfl
set_option maxRecDepth 20000 in
theorem wi_803 : Cond.instanceMethod yX11_check ∈ tb := tb_of (List.mem_of_getElem? (i := 803) rfl) rfl
set_option maxRecDepth 20000 in
theorem wi_804 : Cond.selects RX11 yX11_check yX11_check ∈ tb := tb_of (List.mem_of_getElem? (i := 804) rfl) rfl
set_option maxRecDepth 20000 in
theorem wi_805 : Cond.code yX11_check cX11_check 4 (some FieldType.int) ∈ tb := tb_of (List.mem_of_getElem? (i := 805) rfl) rfl
set_option maxRecDepth 20000 in
theorem wi_806 : Cond.methodLink RX11 90 yX11_read ∈ tb := tb_of (List.mem_of_getElem? (i := 806) rfl) rfl
set_option maxRecDepth 20000 in
theorem wi_807 : Cond.static yX11_read ∈ tb := tb_of (List.mem_of_getElem? (i := 807) rfl) rfl
set_option maxRecDepth 20000 in
theorem wi_808 : Cond.code yX11_read cX11_read 4 (some FieldType.int) ∈ tb := tb_of (List.mem_of_getElem? (i := 808) rfl) rfl
set_option maxRecDepth 20000 in
theorem wi_809 : Cond.methodLink RX11 94 yX11_checked ∈ tb := tb_of (List.mem_of_getElem? (i := 809) rfl) rfl
set_option maxRecDepth 20000 in
theorem wi_810 : Cond.static yX11_checked ∈ tb := tb_of (List.mem_of_getElem? (i := 810) rfl) rfl
set_option maxRecDepth 20000 in
theorem wi_811 : Cond.code yX11_checked cX11_checked 3 (some FieldType.int) ∈ tb := tb_of (List.mem_of_getElem? (i := 811) rfl) rfl
set_option maxRecDepth 20000 in
theorem wi_812 : Cond.constant RX11 89 (65535) ∈ tb := tb_of (List.mem_of_getElem? (i := 812) rfl) rfl
set_option maxRecDepth 20000 in
theorem wi_813 : Cond.methodLink RL 46 yX11_go ∈ tb := tb_of (List.mem_of_getElem? (i := 813) rfl) rfl
set_option maxRecDepth 20000 in
theorem wi_814 : Cond.instanceMethod yX11_go ∈ tb := tb_of (List.mem_of_getElem? (i := 814) rfl) rfl
set_option maxRecDepth 20000 in
theorem wi_815 : Cond.selects RX11 yX11_go yX11_go ∈ tb := tb_of (List.mem_of_getElem? (i := 815) rfl) rfl
set_option maxRecDepth 20000 in
theorem wi_816 : Cond.code yX11_go cX11_go 2 (some FieldType.int) ∈ tb := tb_of (List.mem_of_getElem? (i := 816) rfl) rfl
set_option maxRecDepth 20000 in
theorem wi_817 : Cond.methodLink RX11 148 yX11_send ∈ tb := tb_of (List.mem_of_getElem? (i := 817) rfl) rfl
set_option maxRecDepth 20000 in
theorem wi_819 : Cond.instanceMethod yX11_send ∈ tb := tb_of (List.mem_of_getElem? (i := 819) rfl) rfl
set_option maxRecDepth 20000 in
theorem wi_820 : Cond.code yX11_send cX11_send 3 (none : Option Jvm.ClassFile.FieldType) ∈ tb := tb_of (List.mem_of_getElem? (i := 820) rfl) rfl
set_option maxRecDepth 20000 in
theorem wi_821 : Cond.methodLink RX11 142 yX11_understand ∈ tb := tb_of (List.mem_of_getElem? (i := 821) rfl) rfl
set_option maxRecDepth 20000 in
theorem wi_823 : Cond.instanceMethod yX11_understand ∈ tb := tb_of (List.mem_of_getElem? (i := 823) rfl) rfl
set_option maxRecDepth 20000 in
theorem wi_824 : Cond.code yX11_understand cX11_understand 7 (none : Option Jvm.ClassFile.FieldType) ∈ tb := tb_of (List.mem_of_getElem? (i := 824) rfl) rfl
set_option maxRecDepth 20000 in
theorem wi_825 : Cond.methodLink RX11 145 yX11_hear ∈ tb := tb_of (List.mem_of_getElem? (i := 825) rfl) rfl
set_option maxRecDepth 20000 in
theorem wi_827 : Cond.instanceMethod yX11_hear ∈ tb := tb_of (List.mem_of_getElem? (i := 827) rfl) rfl
set_option maxRecDepth 20000 in
theorem wi_828 : Cond.code yX11_hear cX11_hear 6 (none : Option Jvm.ClassFile.FieldType) ∈ tb := tb_of (List.mem_of_getElem? (i := 828) rfl) rfl
set_option maxRecDepth 20000 in
theorem wi_829 : Cond.methodLink RX11 117 yX11_begin ∈ tb := tb_of (List.mem_of_getElem? (i := 829) rfl) rfl
set_option maxRecDepth 20000 in
theorem wi_831 : Cond.instanceMethod yX11_begin ∈ tb := tb_of (List.mem_of_getElem? (i := 831) rfl) rfl
set_option maxRecDepth 20000 in
theorem wi_832 : Cond.code yX11_begin cX11_begin 3 (none : Option Jvm.ClassFile.FieldType) ∈ tb := tb_of (List.mem_of_getElem? (i := 832) rfl) rfl
set_option maxRecDepth 20000 in
theorem wi_833 : Cond.methodLink RX11 113 yX11_say ∈ tb := tb_of (List.mem_of_getElem? (i := 833) rfl) rfl
set_option maxRecDepth 20000 in
theorem wi_835 : Cond.instanceMethod yX11_say ∈ tb := tb_of (List.mem_of_getElem? (i := 835) rfl) rfl
set_option maxRecDepth 20000 in
theorem wi_836 : Cond.code yX11_say cX11_say 3 (none : Option Jvm.ClassFile.FieldType) ∈ tb := tb_of (List.mem_of_getElem? (i := 836) rfl) rfl
set_option maxRecDepth 20000 in
theorem wi_837 : Cond.methodLink RX11 121 yX11_shows ∈ tb := tb_of (List.mem_of_getElem? (i := 837) rfl) rfl
set_option maxRecDepth 20000 in
theorem wi_839 : Cond.instanceMethod yX11_shows ∈ tb := tb_of (List.mem_of_getElem? (i := 839) rfl) rfl
set_option maxRecDepth 20000 in
theorem wi_840 : Cond.code yX11_shows cX11_shows 4 (some FieldType.boolean) ∈ tb := tb_of (List.mem_of_getElem? (i := 840) rfl) rfl
set_option maxRecDepth 20000 in
theorem wi_841 : Cond.methodLink RX11 124 yX11_sayRest ∈ tb := tb_of (List.mem_of_getElem? (i := 841) rfl) rfl
set_option maxRecDepth 20000 in
theorem wi_843 : Cond.instanceMethod yX11_sayRest ∈ tb := tb_of (List.mem_of_getElem? (i := 843) rfl) rfl
set_option maxRecDepth 20000 in
theorem wi_844 : Cond.code yX11_sayRest cX11_sayRest 6 (none : Option Jvm.ClassFile.FieldType) ∈ tb := tb_of (List.mem_of_getElem? (i := 844) rfl) rfl
set_option maxRecDepth 20000 in
theorem wi_845 : Cond.methodLink RX11 127 yX11_levels ∈ tb := tb_of (List.mem_of_getElem? (i := 845) rfl) rfl
set_option maxRecDepth 20000 in
theorem wi_847 : Cond.instanceMethod yX11_levels ∈ tb := tb_of (List.mem_of_getElem? (i := 847) rfl) rfl
set_option maxRecDepth 20000 in
theorem wi_848 : Cond.code yX11_levels cX11_levels 2 (some FieldType.int) ∈ tb := tb_of (List.mem_of_getElem? (i := 848) rfl) rfl
set_option maxRecDepth 20000 in
theorem wi_849 : Cond.methodLink RX11 130 yX11_sayChecked ∈ tb := tb_of (List.mem_of_getElem? (i := 849) rfl) rfl
set_option maxRecDepth 20000 in
theorem wi_851 : Cond.instanceMethod yX11_sayChecked ∈ tb := tb_of (List.mem_of_getElem? (i := 851) rfl) rfl
set_option maxRecDepth 20000 in
theorem wi_852 : Cond.code yX11_sayChecked cX11_sayChecked 4 (none : Option Jvm.ClassFile.FieldType) ∈ tb := tb_of (List.mem_of_getElem? (i := 852) rfl) rfl
set_option maxRecDepth 20000 in
theorem wi_853 : Cond.methodLink RX11 133 yX11_back ∈ tb := tb_of (List.mem_of_getElem? (i := 853) rfl) rfl
set_option maxRecDepth 20000 in
theorem wi_855 : Cond.instanceMethod yX11_back ∈ tb := tb_of (List.mem_of_getElem? (i := 855) rfl) rfl
set_option maxRecDepth 20000 in
theorem wi_856 : Cond.code yX11_back cX11_back 2 (none : Option Jvm.ClassFile.FieldType) ∈ tb := tb_of (List.mem_of_getElem? (i := 856) rfl) rfl
set_option maxRecDepth 20000 in
theorem wi_857 : Cond.methodLink RL 50 yX11_answer ∈ tb := tb_of (List.mem_of_getElem? (i := 857) rfl) rfl
set_option maxRecDepth 20000 in
theorem wi_858 : Cond.instanceMethod yX11_answer ∈ tb := tb_of (List.mem_of_getElem? (i := 858) rfl) rfl
set_option maxRecDepth 20000 in
theorem wi_859 : Cond.selects RX11 yX11_answer yX11_answer ∈ tb := tb_of (List.mem_of_getElem? (i := 859) rfl) rfl
set_option maxRecDepth 20000 in
theorem wi_860 : Cond.code yX11_answer cX11_answer 2 (some FieldType.int) ∈ tb := tb_of (List.mem_of_getElem? (i := 860) rfl) rfl
set_option maxRecDepth 20000 in
theorem wi_861 : Cond.methodLink RL 54 yX11_state ∈ tb := tb_of (List.mem_of_getElem? (i := 861) rfl) rfl
set_option maxRecDepth 20000 in
theorem wi_862 : Cond.instanceMethod yX11_state ∈ tb := tb_of (List.mem_of_getElem? (i := 862) rfl) rfl
set_option maxRecDepth 20000 in
theorem wi_863 : Cond.selects RX11 yX11_state yX11_state ∈ tb := tb_of (List.mem_of_getElem? (i := 863) rfl) rfl
set_option maxRecDepth 20000 in
theorem wi_864 : Cond.code yX11_state cX11_state 2 (some FieldType.int) ∈ tb := tb_of (List.mem_of_getElem? (i := 864) rfl) rfl
set_option maxRecDepth 20000 in
theorem wi_865 : Cond.methodLink RL 58 yX11_round ∈ tb := tb_of (List.mem_of_getElem? (i := 865) rfl) rfl
set_option maxRecDepth 20000 in
theorem wi_866 : Cond.instanceMethod yX11_round ∈ tb := tb_of (List.mem_of_getElem? (i := 866) rfl) rfl
set_option maxRecDepth 20000 in
theorem wi_867 : Cond.selects RX11 yX11_round yX11_round ∈ tb := tb_of (List.mem_of_getElem? (i := 867) rfl) rfl
set_option maxRecDepth 20000 in
theorem wi_868 : Cond.code yX11_round cX11_round 7 (some FieldType.int) ∈ tb := tb_of (List.mem_of_getElem? (i := 868) rfl) rfl
set_option maxRecDepth 20000 in
theorem wi_869 : Cond.methodLink RX11 172 yX11_sendShort ∈ tb := tb_of (List.mem_of_getElem? (i := 869) rfl) rfl
set_option maxRecDepth 20000 in
theorem wi_871 : Cond.instanceMethod yX11_sendShort ∈ tb := tb_of (List.mem_of_getElem? (i := 871) rfl) rfl
set_option maxRecDepth 20000 in
theorem wi_872 : Cond.code yX11_sendShort cX11_sendShort 3 (none : Option Jvm.ClassFile.FieldType) ∈ tb := tb_of (List.mem_of_getElem? (i := 872) rfl) rfl
set_option maxRecDepth 20000 in
theorem wi_873 : Cond.methodLink RX11 175 yX11_knows ∈ tb := tb_of (List.mem_of_getElem? (i := 873) rfl) rfl
set_option maxRecDepth 20000 in
theorem wi_875 : Cond.instanceMethod yX11_knows ∈ tb := tb_of (List.mem_of_getElem? (i := 875) rfl) rfl
set_option maxRecDepth 20000 in
theorem wi_876 : Cond.code yX11_knows cX11_knows 4 (some FieldType.boolean) ∈ tb := tb_of (List.mem_of_getElem? (i := 876) rfl) rfl
set_option maxRecDepth 20000 in
theorem wi_877 : Cond.methodLink RX11 163 yX11_sendSearch ∈ tb := tb_of (List.mem_of_getElem? (i := 877) rfl) rfl
set_option maxRecDepth 20000 in
theorem wi_879 : Cond.instanceMethod yX11_sendSearch ∈ tb := tb_of (List.mem_of_getElem? (i := 879) rfl) rfl
set_option maxRecDepth 20000 in
theorem wi_880 : Cond.code yX11_sendSearch cX11_sendSearch 3 (none : Option Jvm.ClassFile.FieldType) ∈ tb := tb_of (List.mem_of_getElem? (i := 880) rfl) rfl
set_option maxRecDepth 20000 in
theorem wi_881 : Cond.methodLink RX11 154 yX11_put ∈ tb := tb_of (List.mem_of_getElem? (i := 881) rfl) rfl
set_option maxRecDepth 20000 in
theorem wi_883 : Cond.instanceMethod yX11_put ∈ tb := tb_of (List.mem_of_getElem? (i := 883) rfl) rfl
set_option maxRecDepth 20000 in
theorem wi_884 : Cond.code yX11_put cX11_put 3 (none : Option Jvm.ClassFile.FieldType) ∈ tb := tb_of (List.mem_of_getElem? (i := 884) rfl) rfl
set_option maxRecDepth 20000 in
theorem wi_885 : Cond.methodLink RX11 160 yX11_knownByte ∈ tb := tb_of (List.mem_of_getElem? (i := 885) rfl) rfl
set_option maxRecDepth 20000 in
theorem wi_887 : Cond.instanceMethod yX11_knownByte ∈ tb := tb_of (List.mem_of_getElem? (i := 887) rfl) rfl
set_option maxRecDepth 20000 in
theorem wi_888 : Cond.code yX11_knownByte cX11_knownByte 4 (some FieldType.int) ∈ tb := tb_of (List.mem_of_getElem? (i := 888) rfl) rfl
set_option maxRecDepth 20000 in
theorem wi_889 : Cond.methodLink RX11 178 yX11_chooses ∈ tb := tb_of (List.mem_of_getElem? (i := 889) rfl) rfl
set_option maxRecDepth 20000 in
theorem wi_891 : Cond.instanceMethod yX11_chooses ∈ tb := tb_of (List.mem_of_getElem? (i := 891) rfl) rfl
set_option maxRecDepth 20000 in
theorem wi_892 : Cond.code yX11_chooses cX11_chooses 4 (some FieldType.int) ∈ tb := tb_of (List.mem_of_getElem? (i := 892) rfl) rfl
set_option maxRecDepth 20000 in
theorem wi_893 : Cond.methodLink RX11 166 yX11_putChecked ∈ tb := tb_of (List.mem_of_getElem? (i := 893) rfl) rfl
set_option maxRecDepth 20000 in
theorem wi_895 : Cond.instanceMethod yX11_putChecked ∈ tb := tb_of (List.mem_of_getElem? (i := 895) rfl) rfl
set_option maxRecDepth 20000 in
theorem wi_896 : Cond.code yX11_putChecked cX11_putChecked 3 (none : Option Jvm.ClassFile.FieldType) ∈ tb := tb_of (List.mem_of_getElem? (i := 896) rfl) rfl
set_option maxRecDepth 20000 in
theorem wi_897 : Cond.methodLink RL 62 yX11_found ∈ tb := tb_of (List.mem_of_getElem? (i := 897) rfl) rfl
set_option maxRecDepth 20000 in
theorem wi_898 : Cond.instanceMethod yX11_found ∈ tb := tb_of (List.mem_of_getElem? (i := 898) rfl) rfl
set_option maxRecDepth 20000 in
theorem wi_899 : Cond.selects RX11 yX11_found yX11_found ∈ tb := tb_of (List.mem_of_getElem? (i := 899) rfl) rfl
set_option maxRecDepth 20000 in
theorem wi_900 : Cond.code yX11_found cX11_found 3 (some FieldType.int) ∈ tb := tb_of (List.mem_of_getElem? (i := 900) rfl) rfl
set_option maxRecDepth 20000 in
theorem wi_901 : Cond.methodLink RL 66 yX11_frames ∈ tb := tb_of (List.mem_of_getElem? (i := 901) rfl) rfl
set_option maxRecDepth 20000 in
theorem wi_902 : Cond.instanceMethod yX11_frames ∈ tb := tb_of (List.mem_of_getElem? (i := 902) rfl) rfl
set_option maxRecDepth 20000 in
theorem wi_903 : Cond.selects RX11 yX11_frames yX11_frames ∈ tb := tb_of (List.mem_of_getElem? (i := 903) rfl) rfl
set_option maxRecDepth 20000 in
theorem wi_904 : Cond.code yX11_frames cX11_frames 1 (some FieldType.int) ∈ tb := tb_of (List.mem_of_getElem? (i := 904) rfl) rfl
set_option maxRecDepth 20000 in
theorem wi_905 : Cond.castable "TagField$Tag" "TagField$Tag" ∈ tb := tb_of (List.mem_of_getElem? (i := 905) rfl) rfl
set_option maxRecDepth 20000 in
theorem wi_906 : Cond.sameMethod "[Ljava/lang/Object;" "java/lang/Object" "getClass" "()Ljava/lang/Class;" ∈ tb := tb_of (List.mem_of_getElem? (i := 906) rfl) rfl
set_option maxRecDepth 20000 in
theorem wi_908 : Cond.declares ⟨"java/lang/Object", "getClass", "()Ljava/lang/Class;"⟩ ∈ tb := tb_of (List.mem_of_getElem? (i := 908) rfl) rfl
set_option maxRecDepth 20000 in
theorem wi_909 : Cond.castable "TagField" "java/lang/Object" ∈ tb := tb_of (List.mem_of_getElem? (i := 909) rfl) rfl
set_option maxRecDepth 20000 in
theorem wi_910 : Cond.castable "TagField$Row" "java/lang/Object" ∈ tb := tb_of (List.mem_of_getElem? (i := 910) rfl) rfl
set_option maxRecDepth 20000 in
theorem wi_911 : Cond.castable "TagField$Answer" "java/lang/Object" ∈ tb := tb_of (List.mem_of_getElem? (i := 911) rfl) rfl
set_option maxRecDepth 20000 in
theorem wi_912 : Cond.castable "TagField$Air" "java/lang/Object" ∈ tb := tb_of (List.mem_of_getElem? (i := 912) rfl) rfl
set_option maxRecDepth 20000 in
theorem wi_913 : Cond.castable "TagField$Frame" "java/lang/Object" ∈ tb := tb_of (List.mem_of_getElem? (i := 913) rfl) rfl
set_option maxRecDepth 20000 in
theorem wi_914 : Cond.castable "TagField$Reader" "java/lang/Object" ∈ tb := tb_of (List.mem_of_getElem? (i := 914) rfl) rfl
set_option maxRecDepth 20000 in
theorem wi_915 : Cond.castable "TagFieldModel" "java/lang/Object" ∈ tb := tb_of (List.mem_of_getElem? (i := 915) rfl) rfl
set_option maxRecDepth 20000 in
theorem wi_916 : Cond.castable "TagField$Tag" "java/lang/Object" ∈ tb := tb_of (List.mem_of_getElem? (i := 916) rfl) rfl
set_option maxRecDepth 20000 in
theorem wi_917 : Cond.castable "TagField$Kind" "java/lang/Object" ∈ tb := tb_of (List.mem_of_getElem? (i := 917) rfl) rfl
set_option maxRecDepth 20000 in
theorem wi_918 : Cond.castable "TagField$Reply" "java/lang/Object" ∈ tb := tb_of (List.mem_of_getElem? (i := 918) rfl) rfl
theorem lay_X1 : ∀ w ∈ u_ws RX1 TX1 4, w ∈ tb := by decide +kernel
theorem tab_X1 : hp_T TX1 4 tyX1 := ⟨tyX1_ok, nmX1⟩
theorem lay_X2 : ∀ w ∈ u_ws RX2 TX2 3, w ∈ tb := by decide +kernel
theorem tab_X2 : hp_T TX2 3 tyX2 := ⟨tyX2_ok, nmX2⟩
theorem lay_X4 : ∀ w ∈ u_ws RX4 TX4 5, w ∈ tb := by decide +kernel
theorem tab_X4 : hp_T TX4 5 tyX4 := ⟨tyX4_ok, nmX4⟩
theorem lay_X6 : ∀ w ∈ u_ws RX6 TX6 7, w ∈ tb := by decide +kernel
theorem tab_X6 : hp_T TX6 7 tyX6 := ⟨tyX6_ok, nmX6⟩
theorem lay_X8 : ∀ w ∈ u_ws RX8 TX8 2, w ∈ tb := by decide +kernel
theorem tab_X8 : hp_T TX8 2 tyX8 := ⟨tyX8_ok, nmX8⟩
theorem lay_X9 : ∀ w ∈ u_ws RX9 TX9 5, w ∈ tb := by decide +kernel
theorem tab_X9 : hp_T TX9 5 tyX9 := ⟨tyX9_ok, nmX9⟩
theorem lay_X10 : ∀ w ∈ u_ws RX10 TX10 4, w ∈ tb := by decide +kernel
theorem tab_X10 : hp_T TX10 4 tyX10 := ⟨tyX10_ok, nmX10⟩
theorem lay_X11 : ∀ w ∈ u_ws RX11 TX11 29, w ∈ tb := by decide +kernel
theorem tab_X11 : hp_T TX11 29 tyX11 := ⟨tyX11_ok, nmX11⟩
theorem lay_Jx4a65c : ∀ w ∈ u_ws RJx4a65c TJx4a65c 3, w ∈ tb := by decide +kernel
theorem tab_Jx4a65c : hp_T TJx4a65c 3 tyJx4a65c := ⟨tyJx4a65c_ok, nmJx4a65c⟩
theorem F_X8_9 : sF RX8 9 4 0 := ⟨RX8, TX8, 2, "TagField$Row", rfl, by decide, lay_X8, Or.inl wi_79, Or.inl rfl⟩
theorem P_X8_9 : sP RX8 9 4 0 (.array .int) true := ⟨RX8, TX8, 2, "TagField$Row", tyX8, rfl, by decide, lay_X8, Or.inl wi_79, Or.inl rfl, rfl, by decide +kernel, tab_X8, fun _ => rfl⟩
theorem F_X4_20 : sF RX4 20 4 1 := ⟨RX8, TX8, 2, "TagField$Row", rfl, by decide, lay_X8, Or.inr ⟨_, wi_80⟩, Or.inl rfl⟩
theorem P_X4_20 : sP RX4 20 4 1 .int false := ⟨RX8, TX8, 2, "TagField$Row", tyX8, rfl, by decide, lay_X8, Or.inr ⟨rfl, _, wi_80⟩, Or.inl rfl, rfl, by decide +kernel, tab_X8, fun h => by cases h⟩
theorem F_X8_15 : sF RX8 15 4 1 := ⟨RX8, TX8, 2, "TagField$Row", rfl, by decide, lay_X8, Or.inl wi_81, Or.inl rfl⟩
theorem P_X8_15 : sP RX8 15 4 1 .int false := ⟨RX8, TX8, 2, "TagField$Row", tyX8, rfl, by decide, lay_X8, Or.inl wi_81, Or.inl rfl, rfl, by decide +kernel, tab_X8, fun h => by cases h⟩
theorem F_X10_79 : sF RX10 79 4 1 := ⟨RX8, TX8, 2, "TagField$Row", rfl, by decide, lay_X8, Or.inr ⟨_, wi_82⟩, Or.inl rfl⟩
theorem P_X10_79 : sP RX10 79 4 1 .int false := ⟨RX8, TX8, 2, "TagField$Row", tyX8, rfl, by decide, lay_X8, Or.inr ⟨rfl, _, wi_82⟩, Or.inl rfl, rfl, by decide +kernel, tab_X8, fun h => by cases h⟩
theorem F_X2_9 : sF RX2 9 1 0 := ⟨RX2, TX2, 3, "TagField$Answer", rfl, by decide, lay_X2, Or.inl wi_95, Or.inl rfl⟩
theorem P_X2_9 : sP RX2 9 1 0 .long false := ⟨RX2, TX2, 3, "TagField$Answer", tyX2, rfl, by decide, lay_X2, Or.inl wi_95, Or.inl rfl, rfl, by decide +kernel, tab_X2, fun h => by cases h⟩
theorem F_X2_15 : sF RX2 15 1 1 := ⟨RX2, TX2, 3, "TagField$Answer", rfl, by decide, lay_X2, Or.inl wi_96, Or.inl rfl⟩
theorem P_X2_15 : sP RX2 15 1 1 .long false := ⟨RX2, TX2, 3, "TagField$Answer", tyX2, rfl, by decide, lay_X2, Or.inl wi_96, Or.inl rfl, rfl, by decide +kernel, tab_X2, fun h => by cases h⟩
theorem F_X2_18 : sF RX2 18 1 2 := ⟨RX2, TX2, 3, "TagField$Answer", rfl, by decide, lay_X2, Or.inl wi_97, Or.inl rfl⟩
theorem P_X2_18 : sP RX2 18 1 2 .int false := ⟨RX2, TX2, 3, "TagField$Answer", tyX2, rfl, by decide, lay_X2, Or.inl wi_97, Or.inl rfl, rfl, by decide +kernel, tab_X2, fun h => by cases h⟩
theorem F_X1_77 : sF RX1 77 1 2 := ⟨RX2, TX2, 3, "TagField$Answer", rfl, by decide, lay_X2, Or.inr ⟨_, wi_98⟩, Or.inl rfl⟩
theorem P_X1_77 : sP RX1 77 1 2 .int false := ⟨RX2, TX2, 3, "TagField$Answer", tyX2, rfl, by decide, lay_X2, Or.inr ⟨rfl, _, wi_98⟩, Or.inl rfl, rfl, by decide +kernel, tab_X2, fun h => by cases h⟩
theorem F_Jx4a65c_9 : sF RJx4a65c 9 8 1 := ⟨RJx4a65c, TJx4a65c, 3, "java/util/ArrayList", rfl, by decide, lay_Jx4a65c, Or.inl wi_126, Or.inl rfl⟩
theorem P_Jx4a65c_9 : sP RJx4a65c 9 8 1 (.array (.object "java/lang/Object")) false := ⟨RJx4a65c, TJx4a65c, 3, "java/util/ArrayList", tyJx4a65c, rfl, by decide, lay_Jx4a65c, Or.inl wi_126, Or.inl rfl, rfl, by decide +kernel, tab_Jx4a65c, fun h => by cases h⟩
theorem F_Jx4a65c_48 : sF RJx4a65c 48 8 2 := ⟨RJx4a65c, TJx4a65c, 3, "java/util/ArrayList", rfl, by decide, lay_Jx4a65c, Or.inl wi_127, Or.inl rfl⟩
theorem P_Jx4a65c_48 : sP RJx4a65c 48 8 2 .int false := ⟨RJx4a65c, TJx4a65c, 3, "java/util/ArrayList", tyJx4a65c, rfl, by decide, lay_Jx4a65c, Or.inl wi_127, Or.inl rfl, rfl, by decide +kernel, tab_Jx4a65c, fun h => by cases h⟩
theorem F_Jxc12de_7 : sF RJxc12de 7 8 0 := ⟨RJx4a65c, TJx4a65c, 3, "java/util/AbstractList", rfl, by decide, lay_Jx4a65c, Or.inl wi_128, Or.inl rfl⟩
theorem P_Jxc12de_7 : sP RJxc12de 7 8 0 .int false := ⟨RJx4a65c, TJx4a65c, 3, "java/util/AbstractList", tyJx4a65c, rfl, by decide, lay_Jx4a65c, Or.inl wi_128, Or.inl rfl, rfl, by decide +kernel, tab_Jx4a65c, fun h => by cases h⟩
theorem F_Jx4a65c_63 : sF RJx4a65c 63 8 0 := ⟨RJx4a65c, TJx4a65c, 3, "java/util/ArrayList", rfl, by decide, lay_Jx4a65c, Or.inl wi_129, Or.inr wi_130⟩
theorem P_Jx4a65c_63 : sP RJx4a65c 63 8 0 .int false := ⟨RJx4a65c, TJx4a65c, 3, "java/util/ArrayList", tyJx4a65c, rfl, by decide, lay_Jx4a65c, Or.inl wi_129, Or.inr wi_130, rfl, by decide +kernel, tab_Jx4a65c, fun h => by cases h⟩
theorem F_X4_15 : sF RX4 15 2 0 := ⟨RX4, TX4, 5, "TagField$Frame", rfl, by decide, lay_X4, Or.inl wi_146, Or.inl rfl⟩
theorem P_X4_15 : sP RX4 15 2 0 (.object "TagField$Kind") false := ⟨RX4, TX4, 5, "TagField$Frame", tyX4, rfl, by decide, lay_X4, Or.inl wi_146, Or.inl rfl, rfl, by decide +kernel, tab_X4, fun h => by cases h⟩
theorem F_X9_45 : sF RX9 45 2 0 := ⟨RX4, TX4, 5, "TagField$Frame", rfl, by decide, lay_X4, Or.inr ⟨_, wi_147⟩, Or.inl rfl⟩
theorem P_X9_45 : sP RX9 45 2 0 (.object "TagField$Kind") false := ⟨RX4, TX4, 5, "TagField$Frame", tyX4, rfl, by decide, lay_X4, Or.inr ⟨rfl, _, wi_147⟩, Or.inl rfl, rfl, by decide +kernel, tab_X4, fun h => by cases h⟩
theorem F_X4_37 : sF RX4 37 2 1 := ⟨RX4, TX4, 5, "TagField$Frame", rfl, by decide, lay_X4, Or.inl wi_148, Or.inl rfl⟩
theorem P_X4_37 : sP RX4 37 2 1 .int false := ⟨RX4, TX4, 5, "TagField$Frame", tyX4, rfl, by decide, lay_X4, Or.inl wi_148, Or.inl rfl, rfl, by decide +kernel, tab_X4, fun h => by cases h⟩
theorem F_X9_89 : sF RX9 89 2 1 := ⟨RX4, TX4, 5, "TagField$Frame", rfl, by decide, lay_X4, Or.inr ⟨_, wi_149⟩, Or.inl rfl⟩
theorem P_X9_89 : sP RX9 89 2 1 .int false := ⟨RX4, TX4, 5, "TagField$Frame", tyX4, rfl, by decide, lay_X4, Or.inr ⟨rfl, _, wi_149⟩, Or.inl rfl, rfl, by decide +kernel, tab_X4, fun h => by cases h⟩
theorem F_X4_30 : sF RX4 30 2 2 := ⟨RX4, TX4, 5, "TagField$Frame", rfl, by decide, lay_X4, Or.inl wi_150, Or.inl rfl⟩
theorem P_X4_30 : sP RX4 30 2 2 .int false := ⟨RX4, TX4, 5, "TagField$Frame", tyX4, rfl, by decide, lay_X4, Or.inl wi_150, Or.inl rfl, rfl, by decide +kernel, tab_X4, fun h => by cases h⟩
theorem F_X9_161 : sF RX9 161 2 2 := ⟨RX4, TX4, 5, "TagField$Frame", rfl, by decide, lay_X4, Or.inr ⟨_, wi_151⟩, Or.inl rfl⟩
theorem P_X9_161 : sP RX9 161 2 2 .int false := ⟨RX4, TX4, 5, "TagField$Frame", tyX4, rfl, by decide, lay_X4, Or.inr ⟨rfl, _, wi_151⟩, Or.inl rfl, rfl, by decide +kernel, tab_X4, fun h => by cases h⟩
theorem F_X4_80 : sF RX4 80 2 3 := ⟨RX4, TX4, 5, "TagField$Frame", rfl, by decide, lay_X4, Or.inl wi_152, Or.inl rfl⟩
theorem P_X4_80 : sP RX4 80 2 3 .long false := ⟨RX4, TX4, 5, "TagField$Frame", tyX4, rfl, by decide, lay_X4, Or.inl wi_152, Or.inl rfl, rfl, by decide +kernel, tab_X4, fun h => by cases h⟩
theorem F_X9_113 : sF RX9 113 2 3 := ⟨RX4, TX4, 5, "TagField$Frame", rfl, by decide, lay_X4, Or.inr ⟨_, wi_153⟩, Or.inl rfl⟩
theorem P_X9_113 : sP RX9 113 2 3 .long false := ⟨RX4, TX4, 5, "TagField$Frame", tyX4, rfl, by decide, lay_X4, Or.inr ⟨rfl, _, wi_153⟩, Or.inl rfl, rfl, by decide +kernel, tab_X4, fun h => by cases h⟩
theorem F_X4_84 : sF RX4 84 2 4 := ⟨RX4, TX4, 5, "TagField$Frame", rfl, by decide, lay_X4, Or.inl wi_154, Or.inl rfl⟩
theorem P_X4_84 : sP RX4 84 2 4 .int false := ⟨RX4, TX4, 5, "TagField$Frame", tyX4, rfl, by decide, lay_X4, Or.inl wi_154, Or.inl rfl, rfl, by decide +kernel, tab_X4, fun h => by cases h⟩
theorem F_X9_110 : sF RX9 110 2 4 := ⟨RX4, TX4, 5, "TagField$Frame", rfl, by decide, lay_X4, Or.inr ⟨_, wi_155⟩, Or.inl rfl⟩
theorem P_X9_110 : sP RX9 110 2 4 .int false := ⟨RX4, TX4, 5, "TagField$Frame", tyX4, rfl, by decide, lay_X4, Or.inr ⟨rfl, _, wi_155⟩, Or.inl rfl, rfl, by decide +kernel, tab_X4, fun h => by cases h⟩
theorem F_X1_10 : sF RX1 10 0 0 := ⟨RX1, TX1, 4, "TagField$Air", rfl, by decide, lay_X1, Or.inl wi_167, Or.inl rfl⟩
theorem P_X1_10 : sP RX1 10 0 0 (.object "java/util/ArrayList") true := ⟨RX1, TX1, 4, "TagField$Air", tyX1, rfl, by decide, lay_X1, Or.inl wi_167, Or.inl rfl, rfl, by decide +kernel, tab_X1, fun _ => rfl⟩
theorem F_X1_19 : sF RX1 19 0 1 := ⟨RX1, TX1, 4, "TagField$Air", rfl, by decide, lay_X1, Or.inl wi_168, Or.inl rfl⟩
theorem P_X1_19 : sP RX1 19 0 1 (.object "TagField$Frame") true := ⟨RX1, TX1, 4, "TagField$Air", tyX1, rfl, by decide, lay_X1, Or.inl wi_168, Or.inl rfl, rfl, by decide +kernel, tab_X1, fun _ => rfl⟩
theorem F_X1_23 : sF RX1 23 0 2 := ⟨RX1, TX1, 4, "TagField$Air", rfl, by decide, lay_X1, Or.inl wi_169, Or.inl rfl⟩
theorem P_X1_23 : sP RX1 23 0 2 .boolean false := ⟨RX1, TX1, 4, "TagField$Air", tyX1, rfl, by decide, lay_X1, Or.inl wi_169, Or.inl rfl, rfl, by decide +kernel, tab_X1, fun h => by cases h⟩
theorem F_X1_56 : sF RX1 56 0 3 := ⟨RX1, TX1, 4, "TagField$Air", rfl, by decide, lay_X1, Or.inl wi_170, Or.inl rfl⟩
theorem P_X1_56 : sP RX1 56 0 3 .int false := ⟨RX1, TX1, 4, "TagField$Air", tyX1, rfl, by decide, lay_X1, Or.inl wi_170, Or.inl rfl, rfl, by decide +kernel, tab_X1, fun h => by cases h⟩
theorem F_X10_119 : sF RX10 119 0 3 := ⟨RX1, TX1, 4, "TagField$Air", rfl, by decide, lay_X1, Or.inr ⟨_, wi_171⟩, Or.inl rfl⟩
theorem P_X10_119 : sP RX10 119 0 3 .int false := ⟨RX1, TX1, 4, "TagField$Air", tyX1, rfl, by decide, lay_X1, Or.inr ⟨rfl, _, wi_171⟩, Or.inl rfl, rfl, by decide +kernel, tab_X1, fun h => by cases h⟩
theorem F_X6_14 : sF RX6 14 3 0 := ⟨RX6, TX6, 7, "TagField$Reader", rfl, by decide, lay_X6, Or.inl wi_191, Or.inl rfl⟩
theorem P_X6_14 : sP RX6 14 3 0 (.object "TagField$Row") true := ⟨RX6, TX6, 7, "TagField$Reader", tyX6, rfl, by decide, lay_X6, Or.inl wi_191, Or.inl rfl, rfl, by decide +kernel, tab_X6, fun _ => rfl⟩
theorem F_X6_23 : sF RX6 23 3 1 := ⟨RX6, TX6, 7, "TagField$Reader", rfl, by decide, lay_X6, Or.inl wi_192, Or.inl rfl⟩
theorem P_X6_23 : sP RX6 23 3 1 (.object "TagField$Answer") true := ⟨RX6, TX6, 7, "TagField$Reader", tyX6, rfl, by decide, lay_X6, Or.inl wi_192, Or.inl rfl, rfl, by decide +kernel, tab_X6, fun _ => rfl⟩
theorem F_X6_27 : sF RX6 27 3 2 := ⟨RX6, TX6, 7, "TagField$Reader", rfl, by decide, lay_X6, Or.inl wi_193, Or.inl rfl⟩
theorem P_X6_27 : sP RX6 27 3 2 (.array .int) true := ⟨RX6, TX6, 7, "TagField$Reader", tyX6, rfl, by decide, lay_X6, Or.inl wi_193, Or.inl rfl, rfl, by decide +kernel, tab_X6, fun _ => rfl⟩
theorem F_X6_31 : sF RX6 31 3 3 := ⟨RX6, TX6, 7, "TagField$Reader", rfl, by decide, lay_X6, Or.inl wi_194, Or.inl rfl⟩
theorem P_X6_31 : sP RX6 31 3 3 (.array .int) true := ⟨RX6, TX6, 7, "TagField$Reader", tyX6, rfl, by decide, lay_X6, Or.inl wi_194, Or.inl rfl, rfl, by decide +kernel, tab_X6, fun _ => rfl⟩
theorem F_X6_34 : sF RX6 34 3 4 := ⟨RX6, TX6, 7, "TagField$Reader", rfl, by decide, lay_X6, Or.inl wi_195, Or.inl rfl⟩
theorem P_X6_34 : sP RX6 34 3 4 .int false := ⟨RX6, TX6, 7, "TagField$Reader", tyX6, rfl, by decide, lay_X6, Or.inl wi_195, Or.inl rfl, rfl, by decide +kernel, tab_X6, fun h => by cases h⟩
theorem F_X10_113 : sF RX10 113 3 4 := ⟨RX6, TX6, 7, "TagField$Reader", rfl, by decide, lay_X6, Or.inr ⟨_, wi_196⟩, Or.inl rfl⟩
theorem P_X10_113 : sP RX10 113 3 4 .int false := ⟨RX6, TX6, 7, "TagField$Reader", tyX6, rfl, by decide, lay_X6, Or.inr ⟨rfl, _, wi_196⟩, Or.inl rfl, rfl, by decide +kernel, tab_X6, fun h => by cases h⟩
theorem F_X6_69 : sF RX6 69 3 5 := ⟨RX6, TX6, 7, "TagField$Reader", rfl, by decide, lay_X6, Or.inl wi_197, Or.inl rfl⟩
theorem P_X6_69 : sP RX6 69 3 5 .long false := ⟨RX6, TX6, 7, "TagField$Reader", tyX6, rfl, by decide, lay_X6, Or.inl wi_197, Or.inl rfl, rfl, by decide +kernel, tab_X6, fun h => by cases h⟩
theorem F_X6_73 : sF RX6 73 3 6 := ⟨RX6, TX6, 7, "TagField$Reader", rfl, by decide, lay_X6, Or.inl wi_198, Or.inl rfl⟩
theorem P_X6_73 : sP RX6 73 3 6 .int false := ⟨RX6, TX6, 7, "TagField$Reader", tyX6, rfl, by decide, lay_X6, Or.inl wi_198, Or.inl rfl, rfl, by decide +kernel, tab_X6, fun h => by cases h⟩
theorem F_X10_14 : sF RX10 14 6 0 := ⟨RX10, TX10, 4, "TagField", rfl, by decide, lay_X10, Or.inl wi_214, Or.inl rfl⟩
theorem P_X10_14 : sP RX10 14 6 0 (.object "TagField$Row") true := ⟨RX10, TX10, 4, "TagField", tyX10, rfl, by decide, lay_X10, Or.inl wi_214, Or.inl rfl, rfl, by decide +kernel, tab_X10, fun _ => rfl⟩
theorem F_X10_21 : sF RX10 21 6 1 := ⟨RX10, TX10, 4, "TagField", rfl, by decide, lay_X10, Or.inl wi_215, Or.inl rfl⟩
theorem P_X10_21 : sP RX10 21 6 1 (.object "TagField$Answer") true := ⟨RX10, TX10, 4, "TagField", tyX10, rfl, by decide, lay_X10, Or.inl wi_215, Or.inl rfl, rfl, by decide +kernel, tab_X10, fun _ => rfl⟩
theorem F_X10_28 : sF RX10 28 6 2 := ⟨RX10, TX10, 4, "TagField", rfl, by decide, lay_X10, Or.inl wi_216, Or.inl rfl⟩
theorem P_X10_28 : sP RX10 28 6 2 (.object "TagField$Air") true := ⟨RX10, TX10, 4, "TagField", tyX10, rfl, by decide, lay_X10, Or.inl wi_216, Or.inl rfl, rfl, by decide +kernel, tab_X10, fun _ => rfl⟩
theorem F_X10_35 : sF RX10 35 6 3 := ⟨RX10, TX10, 4, "TagField", rfl, by decide, lay_X10, Or.inl wi_217, Or.inl rfl⟩
theorem P_X10_35 : sP RX10 35 6 3 (.object "TagField$Reader") true := ⟨RX10, TX10, 4, "TagField", tyX10, rfl, by decide, lay_X10, Or.inl wi_217, Or.inl rfl, rfl, by decide +kernel, tab_X10, fun _ => rfl⟩
theorem F_X9_22 : sF RX9 22 5 0 := ⟨RX9, TX9, 5, "TagField$Tag", rfl, by decide, lay_X9, Or.inl wi_245, Or.inl rfl⟩
theorem P_X9_22 : sP RX9 22 5 0 .int true := ⟨RX9, TX9, 5, "TagField$Tag", tyX9, rfl, by decide, lay_X9, Or.inl wi_245, Or.inl rfl, rfl, by decide +kernel, tab_X9, fun _ => rfl⟩
theorem F_X9_25 : sF RX9 25 5 1 := ⟨RX9, TX9, 5, "TagField$Tag", rfl, by decide, lay_X9, Or.inl wi_246, Or.inl rfl⟩
theorem P_X9_25 : sP RX9 25 5 1 (.array .long) true := ⟨RX9, TX9, 5, "TagField$Tag", tyX9, rfl, by decide, lay_X9, Or.inl wi_246, Or.inl rfl, rfl, by decide +kernel, tab_X9, fun _ => rfl⟩
theorem F_X9_9 : sF RX9 9 5 2 := ⟨RX9, TX9, 5, "TagField$Tag", rfl, by decide, lay_X9, Or.inl wi_247, Or.inl rfl⟩
theorem P_X9_9 : sP RX9 9 5 2 .boolean false := ⟨RX9, TX9, 5, "TagField$Tag", tyX9, rfl, by decide, lay_X9, Or.inl wi_247, Or.inl rfl, rfl, by decide +kernel, tab_X9, fun h => by cases h⟩
theorem F_X9_15 : sF RX9 15 5 3 := ⟨RX9, TX9, 5, "TagField$Tag", rfl, by decide, lay_X9, Or.inl wi_248, Or.inl rfl⟩
theorem P_X9_15 : sP RX9 15 5 3 .int false := ⟨RX9, TX9, 5, "TagField$Tag", tyX9, rfl, by decide, lay_X9, Or.inl wi_248, Or.inl rfl, rfl, by decide +kernel, tab_X9, fun h => by cases h⟩
theorem F_X9_19 : sF RX9 19 5 4 := ⟨RX9, TX9, 5, "TagField$Tag", rfl, by decide, lay_X9, Or.inl wi_249, Or.inl rfl⟩
theorem P_X9_19 : sP RX9 19 5 4 .int false := ⟨RX9, TX9, 5, "TagField$Tag", tyX9, rfl, by decide, lay_X9, Or.inl wi_249, Or.inl rfl, rfl, by decide +kernel, tab_X9, fun h => by cases h⟩
theorem F_X11_67 : sF RX11 67 7 0 := ⟨RX11, TX11, 29, "TagFieldModel", rfl, by decide, lay_X11, Or.inl wi_674, Or.inl rfl⟩
theorem P_X11_67 : sP RX11 67 7 0 .int false := ⟨RX11, TX11, 29, "TagFieldModel", tyX11, rfl, by decide, lay_X11, Or.inl wi_674, Or.inl rfl, rfl, by decide +kernel, tab_X11, fun h => by cases h⟩
theorem F_X11_7 : sF RX11 7 7 1 := ⟨RX11, TX11, 29, "TagFieldModel", rfl, by decide, lay_X11, Or.inl wi_675, Or.inl rfl⟩
theorem P_X11_7 : sP RX11 7 7 1 (.array .int) true := ⟨RX11, TX11, 29, "TagFieldModel", tyX11, rfl, by decide, lay_X11, Or.inl wi_675, Or.inl rfl, rfl, by decide +kernel, tab_X11, fun _ => rfl⟩
theorem F_X11_13 : sF RX11 13 7 2 := ⟨RX11, TX11, 29, "TagFieldModel", rfl, by decide, lay_X11, Or.inl wi_676, Or.inl rfl⟩
theorem P_X11_13 : sP RX11 13 7 2 (.array .int) true := ⟨RX11, TX11, 29, "TagFieldModel", tyX11, rfl, by decide, lay_X11, Or.inl wi_676, Or.inl rfl, rfl, by decide +kernel, tab_X11, fun _ => rfl⟩
theorem F_X11_16 : sF RX11 16 7 3 := ⟨RX11, TX11, 29, "TagFieldModel", rfl, by decide, lay_X11, Or.inl wi_677, Or.inl rfl⟩
theorem P_X11_16 : sP RX11 16 7 3 (.array .boolean) true := ⟨RX11, TX11, 29, "TagFieldModel", tyX11, rfl, by decide, lay_X11, Or.inl wi_677, Or.inl rfl, rfl, by decide +kernel, tab_X11, fun _ => rfl⟩
theorem F_X11_20 : sF RX11 20 7 4 := ⟨RX11, TX11, 29, "TagFieldModel", rfl, by decide, lay_X11, Or.inl wi_678, Or.inl rfl⟩
theorem P_X11_20 : sP RX11 20 7 4 (.array .int) true := ⟨RX11, TX11, 29, "TagFieldModel", tyX11, rfl, by decide, lay_X11, Or.inl wi_678, Or.inl rfl, rfl, by decide +kernel, tab_X11, fun _ => rfl⟩
theorem F_X11_23 : sF RX11 23 7 5 := ⟨RX11, TX11, 29, "TagFieldModel", rfl, by decide, lay_X11, Or.inl wi_679, Or.inl rfl⟩
theorem P_X11_23 : sP RX11 23 7 5 (.array .int) true := ⟨RX11, TX11, 29, "TagFieldModel", tyX11, rfl, by decide, lay_X11, Or.inl wi_679, Or.inl rfl, rfl, by decide +kernel, tab_X11, fun _ => rfl⟩
theorem F_X11_26 : sF RX11 26 7 6 := ⟨RX11, TX11, 29, "TagFieldModel", rfl, by decide, lay_X11, Or.inl wi_680, Or.inl rfl⟩
theorem P_X11_26 : sP RX11 26 7 6 (.array .int) true := ⟨RX11, TX11, 29, "TagFieldModel", tyX11, rfl, by decide, lay_X11, Or.inl wi_680, Or.inl rfl, rfl, by decide +kernel, tab_X11, fun _ => rfl⟩
theorem F_X11_29 : sF RX11 29 7 7 := ⟨RX11, TX11, 29, "TagFieldModel", rfl, by decide, lay_X11, Or.inl wi_681, Or.inl rfl⟩
theorem P_X11_29 : sP RX11 29 7 7 .boolean false := ⟨RX11, TX11, 29, "TagFieldModel", tyX11, rfl, by decide, lay_X11, Or.inl wi_681, Or.inl rfl, rfl, by decide +kernel, tab_X11, fun h => by cases h⟩
theorem F_X11_79 : sF RX11 79 7 8 := ⟨RX11, TX11, 29, "TagFieldModel", rfl, by decide, lay_X11, Or.inl wi_682, Or.inl rfl⟩
theorem P_X11_79 : sP RX11 79 7 8 .int false := ⟨RX11, TX11, 29, "TagFieldModel", tyX11, rfl, by decide, lay_X11, Or.inl wi_682, Or.inl rfl, rfl, by decide +kernel, tab_X11, fun h => by cases h⟩
theorem F_X11_33 : sF RX11 33 7 9 := ⟨RX11, TX11, 29, "TagFieldModel", rfl, by decide, lay_X11, Or.inl wi_683, Or.inl rfl⟩
theorem P_X11_33 : sP RX11 33 7 9 (.array .int) true := ⟨RX11, TX11, 29, "TagFieldModel", tyX11, rfl, by decide, lay_X11, Or.inl wi_683, Or.inl rfl, rfl, by decide +kernel, tab_X11, fun _ => rfl⟩
theorem F_X11_104 : sF RX11 104 7 10 := ⟨RX11, TX11, 29, "TagFieldModel", rfl, by decide, lay_X11, Or.inl wi_684, Or.inl rfl⟩
theorem P_X11_104 : sP RX11 104 7 10 .int false := ⟨RX11, TX11, 29, "TagFieldModel", tyX11, rfl, by decide, lay_X11, Or.inl wi_684, Or.inl rfl, rfl, by decide +kernel, tab_X11, fun h => by cases h⟩
theorem F_X11_36 : sF RX11 36 7 11 := ⟨RX11, TX11, 29, "TagFieldModel", rfl, by decide, lay_X11, Or.inl wi_685, Or.inl rfl⟩
theorem P_X11_36 : sP RX11 36 7 11 (.array .int) true := ⟨RX11, TX11, 29, "TagFieldModel", tyX11, rfl, by decide, lay_X11, Or.inl wi_685, Or.inl rfl, rfl, by decide +kernel, tab_X11, fun _ => rfl⟩
theorem F_X11_39 : sF RX11 39 7 12 := ⟨RX11, TX11, 29, "TagFieldModel", rfl, by decide, lay_X11, Or.inl wi_686, Or.inl rfl⟩
theorem P_X11_39 : sP RX11 39 7 12 (.array .int) true := ⟨RX11, TX11, 29, "TagFieldModel", tyX11, rfl, by decide, lay_X11, Or.inl wi_686, Or.inl rfl, rfl, by decide +kernel, tab_X11, fun _ => rfl⟩
theorem F_X11_98 : sF RX11 98 7 13 := ⟨RX11, TX11, 29, "TagFieldModel", rfl, by decide, lay_X11, Or.inl wi_687, Or.inl rfl⟩
theorem P_X11_98 : sP RX11 98 7 13 .int false := ⟨RX11, TX11, 29, "TagFieldModel", tyX11, rfl, by decide, lay_X11, Or.inl wi_687, Or.inl rfl, rfl, by decide +kernel, tab_X11, fun h => by cases h⟩
theorem F_X11_107 : sF RX11 107 7 14 := ⟨RX11, TX11, 29, "TagFieldModel", rfl, by decide, lay_X11, Or.inl wi_688, Or.inl rfl⟩
theorem P_X11_107 : sP RX11 107 7 14 .int false := ⟨RX11, TX11, 29, "TagFieldModel", tyX11, rfl, by decide, lay_X11, Or.inl wi_688, Or.inl rfl, rfl, by decide +kernel, tab_X11, fun h => by cases h⟩
theorem F_X11_101 : sF RX11 101 7 15 := ⟨RX11, TX11, 29, "TagFieldModel", rfl, by decide, lay_X11, Or.inl wi_689, Or.inl rfl⟩
theorem P_X11_101 : sP RX11 101 7 15 .int false := ⟨RX11, TX11, 29, "TagFieldModel", tyX11, rfl, by decide, lay_X11, Or.inl wi_689, Or.inl rfl, rfl, by decide +kernel, tab_X11, fun h => by cases h⟩
theorem F_X11_42 : sF RX11 42 7 16 := ⟨RX11, TX11, 29, "TagFieldModel", rfl, by decide, lay_X11, Or.inl wi_690, Or.inl rfl⟩
theorem P_X11_42 : sP RX11 42 7 16 (.array .int) true := ⟨RX11, TX11, 29, "TagFieldModel", tyX11, rfl, by decide, lay_X11, Or.inl wi_690, Or.inl rfl, rfl, by decide +kernel, tab_X11, fun _ => rfl⟩
theorem F_X11_110 : sF RX11 110 7 17 := ⟨RX11, TX11, 29, "TagFieldModel", rfl, by decide, lay_X11, Or.inl wi_691, Or.inl rfl⟩
theorem P_X11_110 : sP RX11 110 7 17 .int false := ⟨RX11, TX11, 29, "TagFieldModel", tyX11, rfl, by decide, lay_X11, Or.inl wi_691, Or.inl rfl, rfl, by decide +kernel, tab_X11, fun h => by cases h⟩
theorem F_X11_45 : sF RX11 45 7 18 := ⟨RX11, TX11, 29, "TagFieldModel", rfl, by decide, lay_X11, Or.inl wi_692, Or.inl rfl⟩
theorem P_X11_45 : sP RX11 45 7 18 (.array .int) true := ⟨RX11, TX11, 29, "TagFieldModel", tyX11, rfl, by decide, lay_X11, Or.inl wi_692, Or.inl rfl, rfl, by decide +kernel, tab_X11, fun _ => rfl⟩
theorem F_X11_139 : sF RX11 139 7 19 := ⟨RX11, TX11, 29, "TagFieldModel", rfl, by decide, lay_X11, Or.inl wi_693, Or.inl rfl⟩
theorem P_X11_139 : sP RX11 139 7 19 .int false := ⟨RX11, TX11, 29, "TagFieldModel", tyX11, rfl, by decide, lay_X11, Or.inl wi_693, Or.inl rfl, rfl, by decide +kernel, tab_X11, fun h => by cases h⟩
theorem F_X11_48 : sF RX11 48 7 20 := ⟨RX11, TX11, 29, "TagFieldModel", rfl, by decide, lay_X11, Or.inl wi_694, Or.inl rfl⟩
theorem P_X11_48 : sP RX11 48 7 20 (.array .int) true := ⟨RX11, TX11, 29, "TagFieldModel", tyX11, rfl, by decide, lay_X11, Or.inl wi_694, Or.inl rfl, rfl, by decide +kernel, tab_X11, fun _ => rfl⟩
theorem F_X11_151 : sF RX11 151 7 21 := ⟨RX11, TX11, 29, "TagFieldModel", rfl, by decide, lay_X11, Or.inl wi_695, Or.inl rfl⟩
theorem P_X11_151 : sP RX11 151 7 21 .int false := ⟨RX11, TX11, 29, "TagFieldModel", tyX11, rfl, by decide, lay_X11, Or.inl wi_695, Or.inl rfl, rfl, by decide +kernel, tab_X11, fun h => by cases h⟩
theorem F_X11_51 : sF RX11 51 7 22 := ⟨RX11, TX11, 29, "TagFieldModel", rfl, by decide, lay_X11, Or.inl wi_696, Or.inl rfl⟩
theorem P_X11_51 : sP RX11 51 7 22 (.array .int) true := ⟨RX11, TX11, 29, "TagFieldModel", tyX11, rfl, by decide, lay_X11, Or.inl wi_696, Or.inl rfl, rfl, by decide +kernel, tab_X11, fun _ => rfl⟩
theorem F_X11_136 : sF RX11 136 7 23 := ⟨RX11, TX11, 29, "TagFieldModel", rfl, by decide, lay_X11, Or.inl wi_697, Or.inl rfl⟩
theorem P_X11_136 : sP RX11 136 7 23 .int false := ⟨RX11, TX11, 29, "TagFieldModel", tyX11, rfl, by decide, lay_X11, Or.inl wi_697, Or.inl rfl, rfl, by decide +kernel, tab_X11, fun h => by cases h⟩
theorem F_X11_169 : sF RX11 169 7 24 := ⟨RX11, TX11, 29, "TagFieldModel", rfl, by decide, lay_X11, Or.inl wi_698, Or.inl rfl⟩
theorem P_X11_169 : sP RX11 169 7 24 .int false := ⟨RX11, TX11, 29, "TagFieldModel", tyX11, rfl, by decide, lay_X11, Or.inl wi_698, Or.inl rfl, rfl, by decide +kernel, tab_X11, fun h => by cases h⟩
theorem F_X11_54 : sF RX11 54 7 25 := ⟨RX11, TX11, 29, "TagFieldModel", rfl, by decide, lay_X11, Or.inl wi_699, Or.inl rfl⟩
theorem P_X11_54 : sP RX11 54 7 25 (.array .int) true := ⟨RX11, TX11, 29, "TagFieldModel", tyX11, rfl, by decide, lay_X11, Or.inl wi_699, Or.inl rfl, rfl, by decide +kernel, tab_X11, fun _ => rfl⟩
theorem F_X11_57 : sF RX11 57 7 26 := ⟨RX11, TX11, 29, "TagFieldModel", rfl, by decide, lay_X11, Or.inl wi_700, Or.inl rfl⟩
theorem P_X11_57 : sP RX11 57 7 26 (.array .int) true := ⟨RX11, TX11, 29, "TagFieldModel", tyX11, rfl, by decide, lay_X11, Or.inl wi_700, Or.inl rfl, rfl, by decide +kernel, tab_X11, fun _ => rfl⟩
theorem F_X11_157 : sF RX11 157 7 27 := ⟨RX11, TX11, 29, "TagFieldModel", rfl, by decide, lay_X11, Or.inl wi_701, Or.inl rfl⟩
theorem P_X11_157 : sP RX11 157 7 27 .int false := ⟨RX11, TX11, 29, "TagFieldModel", tyX11, rfl, by decide, lay_X11, Or.inl wi_701, Or.inl rfl, rfl, by decide +kernel, tab_X11, fun h => by cases h⟩
theorem F_X11_60 : sF RX11 60 7 28 := ⟨RX11, TX11, 29, "TagFieldModel", rfl, by decide, lay_X11, Or.inl wi_702, Or.inl rfl⟩
theorem P_X11_60 : sP RX11 60 7 28 (.array .int) true := ⟨RX11, TX11, 29, "TagFieldModel", tyX11, rfl, by decide, lay_X11, Or.inl wi_702, Or.inl rfl, rfl, by decide +kernel, tab_X11, fun _ => rfl⟩
theorem M_L_9 : mV RL 9 yX10_init cX10_init 1 (none : Option Jvm.ClassFile.FieldType) 0 := ⟨wi_69, wi_41, ⟨by decide, by decide⟩, by decide +kernel, Or.inl wi_67⟩
theorem M_X10_11 : mV RX10 11 yX8_init cX8_init 2 (none : Option Jvm.ClassFile.FieldType) 1 := ⟨wi_77, wi_42, ⟨by decide, by decide⟩, by decide +kernel, Or.inl wi_75⟩
theorem M_X10_20 : mV RX10 20 yX2_init cX2_init 1 (none : Option Jvm.ClassFile.FieldType) 0 := ⟨wi_93, wi_43, ⟨by decide, by decide⟩, by decide +kernel, Or.inr ⟨_, wi_91⟩⟩
theorem M_X10_27 : mV RX10 27 yX1_init cX1_init 1 (none : Option Jvm.ClassFile.FieldType) 0 := ⟨wi_110, wi_44, ⟨by decide, by decide⟩, by decide +kernel, Or.inr ⟨_, wi_108⟩⟩
theorem M_X1_9 : mV RX1 9 yJx4a65c_init_da8c8 cJx4a65c_init_da8c8 1 (none : Option Jvm.ClassFile.FieldType) 0 := ⟨wi_116, wi_47, ⟨by decide, by decide⟩, by decide +kernel, Or.inl wi_114⟩
theorem M_Jx4a65c_1 : mV RJx4a65c 1 yJxc12de_init_da8c8 cJxc12de_init_da8c8 1 (none : Option Jvm.ClassFile.FieldType) 0 := ⟨wi_119, wi_46, ⟨by decide, by decide⟩, by decide +kernel, Or.inl wi_117⟩
theorem M_Jxc12de_1 : mV RJxc12de 1 yJxa1e45_init_da8c8 cJxa1e45_init_da8c8 1 (none : Option Jvm.ClassFile.FieldType) 0 := ⟨wi_122, wi_45, ⟨by decide, by decide⟩, by decide +kernel, Or.inl wi_120⟩
theorem M_X1_18 : mV RX1 18 yX4_init cX4_init 1 (none : Option Jvm.ClassFile.FieldType) 0 := ⟨wi_142, wi_48, ⟨by decide, by decide⟩, by decide +kernel, Or.inr ⟨_, wi_140⟩⟩
theorem M_X10_34 : mV RX10 34 yX6_init cX6_init 1 (none : Option Jvm.ClassFile.FieldType) 0 := ⟨wi_185, wi_51, ⟨by decide, by decide⟩, by decide +kernel, Or.inr ⟨_, wi_183⟩⟩
theorem M_X6_11 : mV RX6 11 yX8_init cX8_init 2 (none : Option Jvm.ClassFile.FieldType) 1 := ⟨wi_77, wi_42, ⟨by decide, by decide⟩, by decide +kernel, Or.inl wi_188⟩
theorem M_X6_22 : mV RX6 22 yX2_init cX2_init 1 (none : Option Jvm.ClassFile.FieldType) 0 := ⟨wi_93, wi_43, ⟨by decide, by decide⟩, by decide +kernel, Or.inr ⟨_, wi_190⟩⟩
theorem M_L_13 : mV RL 13 yX10_tag cX10_tag 6 (some FieldType.int) 4 := ⟨wi_230, wi_41, ⟨by decide, by decide⟩, by decide +kernel, Or.inl wi_227⟩
theorem M_X10_41 : mV RX10 41 yX9_init cX9_init 6 (none : Option Jvm.ClassFile.FieldType) 4 := ⟨wi_235, wi_53, ⟨by decide, by decide⟩, by decide +kernel, Or.inl wi_233⟩
theorem M_X9_29 : mV RX9 29 yX9_shownAt cX9_shownAt 10 (some FieldType.long) 5 := ⟨wi_239, wi_53, ⟨by decide, by decide⟩, by decide +kernel, Or.inl wi_237⟩
theorem M_X9_35 : mV RX9 35 yX9_numberByte cX9_numberByte 5 (some FieldType.int) 4 := ⟨wi_243, wi_53, ⟨by decide, by decide⟩, by decide +kernel, Or.inl wi_241⟩
theorem M_X10_44 : mV RX10 44 yX9_looksUnfinished cX9_looksUnfinished 1 (some FieldType.boolean) 0 := ⟨wi_265, wi_53, ⟨by decide, by decide⟩, by decide +kernel, Or.inl wi_262⟩
theorem M_X10_48 : mV RX10 48 yX1_knowsNumberOf cX1_knowsNumberOf 3 (some FieldType.boolean) 1 := ⟨wi_269, wi_44, ⟨by decide, by decide⟩, by decide +kernel, Or.inl wi_266⟩
theorem M_X1_27 : mV RX1 27 yJx4a65c_size_8abf5 cJx4a65c_size_8abf5 1 (some FieldType.int) 0 := ⟨wi_273, wi_47, ⟨by decide, by decide⟩, by decide +kernel, Or.inl wi_270⟩
theorem M_X1_31 : mV RX1 31 yJx4a65c_get_915e3 cJx4a65c_get_915e3 2 (some (FieldType.object "java/lang/Object")) 1 := ⟨wi_277, wi_47, ⟨by decide, by decide⟩, by decide +kernel, Or.inl wi_274⟩
theorem M_Jx4a65c_118 : mV RJx4a65c 118 yJ15_checkIndex_7cf53 cJ15_checkIndex_7cf53 2 (some FieldType.int) 2 := ⟨wi_280, wi_54, ⟨by decide, by decide⟩, by decide +kernel, Or.inl wi_278⟩
theorem M_J15_105 : mV RJ15 105 yJ3_checkIndex_8e157 cJ3_checkIndex_8e157 3 (some FieldType.int) 3 := ⟨wi_283, wi_55, ⟨by decide, by decide⟩, by decide +kernel, Or.inl wi_281⟩
theorem M_Jx4a65c_123 : mV RJx4a65c 123 yJx4a65c_elementData_915e3 cJx4a65c_elementData_915e3 2 (some (FieldType.object "java/lang/Object")) 1 := ⟨wi_287, wi_47, ⟨by decide, by decide⟩, by decide +kernel, Or.inl wi_284⟩
theorem M_X1_37 : mV RX1 37 yX9_hasNumberOf cX9_hasNumberOf 3 (some FieldType.boolean) 1 := ⟨wi_292, wi_53, ⟨by decide, by decide⟩, by decide +kernel, Or.inl wi_289⟩
theorem M_X10_52 : mV RX10 52 yX1_count cX1_count 1 (some FieldType.int) 0 := ⟨wi_296, wi_44, ⟨by decide, by decide⟩, by decide +kernel, Or.inl wi_293⟩
theorem M_X10_56 : mV RX10 56 yX1_bring cX1_bring 2 (some FieldType.int) 1 := ⟨wi_300, wi_44, ⟨by decide, by decide⟩, by decide +kernel, Or.inl wi_297⟩
theorem M_X1_41 : mV RX1 41 yX9_beginAnew cX9_beginAnew 2 (none : Option Jvm.ClassFile.FieldType) 1 := ⟨wi_304, wi_53, ⟨by decide, by decide⟩, by decide +kernel, Or.inl wi_301⟩
theorem M_X1_45 : mV RX1 45 yJx4a65c_add_9ea2d cJx4a65c_add_9ea2d 2 (some FieldType.boolean) 1 := ⟨wi_308, wi_47, ⟨by decide, by decide⟩, by decide +kernel, Or.inl wi_305⟩
theorem M_Jx4a65c_131 : mV RJx4a65c 131 yJx4a65c_add_72be8 cJx4a65c_add_72be8 4 (none : Option Jvm.ClassFile.FieldType) 3 := ⟨wi_312, wi_47, ⟨by decide, by decide⟩, by decide +kernel, Or.inl wi_309⟩
theorem M_Jx4a65c_129 : mV RJx4a65c 129 yJx4a65c_grow_d5877 cJx4a65c_grow_d5877 1 (some (FieldType.array (FieldType.object "java/lang/Object"))) 0 := ⟨wi_316, wi_47, ⟨by decide, by decide⟩, by decide +kernel, Or.inl wi_313⟩
theorem M_Jx4a65c_69 : mV RJx4a65c 69 yJx4a65c_grow_92f84 cJx4a65c_grow_92f84 4 (some (FieldType.array (FieldType.object "java/lang/Object"))) 1 := ⟨wi_320, wi_47, ⟨by decide, by decide⟩, by decide +kernel, Or.inl wi_317⟩
theorem M_Jx4a65c_73 : mV RJx4a65c 73 yJ8_newLength_cabcc cJ8_newLength_cabcc 4 (some FieldType.int) 3 := ⟨wi_323, wi_56, ⟨by decide, by decide⟩, by decide +kernel, Or.inl wi_321⟩
theorem M_J8_194 : mV RJ8 194 yJ9_max_7cf53 cJ9_max_7cf53 2 (some FieldType.int) 2 := ⟨wi_326, wi_57, ⟨by decide, by decide⟩, by decide +kernel, Or.inl wi_324⟩
theorem M_J8_201 : mV RJ8 201 yJ8_hugeLength_7cf53 cJ8_hugeLength_7cf53 3 (some FieldType.int) 2 := ⟨wi_330, wi_56, ⟨by decide, by decide⟩, by decide +kernel, Or.inl wi_328⟩
theorem M_Jx4a65c_66 : mV RJx4a65c 66 yJ7_copyOf_1904c cJ7_copyOf_1904c 2 (some (FieldType.array (FieldType.object "java/lang/Object"))) 2 := ⟨wi_333, wi_58, ⟨by decide, by decide⟩, by decide +kernel, Or.inl wi_331⟩
theorem M_J7_300 : mV RJ7 300 yJ7_copyOf_6403c cJ7_copyOf_6403c 4 (some (FieldType.array (FieldType.object "java/lang/Object"))) 3 := ⟨wi_351, wi_58, ⟨by decide, by decide⟩, by decide +kernel, Or.inl wi_349⟩
theorem M_J7_304 : mV RJ7 304 yJ9_min_7cf53 cJ9_min_7cf53 2 (some FieldType.int) 2 := ⟨wi_357, wi_57, ⟨by decide, by decide⟩, by decide +kernel, Or.inl wi_355⟩
theorem M_Jx4a65c_79 : mV RJx4a65c 79 yJ9_max_7cf53 cJ9_max_7cf53 2 (some FieldType.int) 2 := ⟨wi_326, wi_57, ⟨by decide, by decide⟩, by decide +kernel, Or.inl wi_361⟩
theorem M_L_18 : mV RL 18 yX10_out cX10_out 3 (some FieldType.int) 2 := ⟨wi_366, wi_41, ⟨by decide, by decide⟩, by decide +kernel, Or.inl wi_363⟩
theorem M_X10_60 : mV RX10 60 yX1_knows cX1_knows 2 (some FieldType.boolean) 1 := ⟨wi_370, wi_44, ⟨by decide, by decide⟩, by decide +kernel, Or.inl wi_367⟩
theorem M_X10_64 : mV RX10 64 yX1_move cX1_move 3 (some FieldType.int) 2 := ⟨wi_374, wi_44, ⟨by decide, by decide⟩, by decide +kernel, Or.inl wi_371⟩
theorem M_X1_49 : mV RX1 49 yX9_move cX9_move 3 (some FieldType.boolean) 2 := ⟨wi_378, wi_53, ⟨by decide, by decide⟩, by decide +kernel, Or.inl wi_375⟩
theorem M_X9_41 : mV RX9 41 yX9_beginAnew cX9_beginAnew 2 (none : Option Jvm.ClassFile.FieldType) 1 := ⟨wi_304, wi_53, ⟨by decide, by decide⟩, by decide +kernel, Or.inl wi_379⟩
theorem M_L_23 : mV RL 23 yX10_field cX10_field 2 (some FieldType.int) 1 := ⟨wi_383, wi_41, ⟨by decide, by decide⟩, by decide +kernel, Or.inl wi_380⟩
theorem M_X10_68 : mV RX10 68 yX1_turn cX1_turn 3 (some FieldType.int) 1 := ⟨wi_387, wi_44, ⟨by decide, by decide⟩, by decide +kernel, Or.inl wi_384⟩
theorem M_L_28 : mV RL 28 yX10_bits cX10_bits 3 (some FieldType.int) 2 := ⟨wi_391, wi_41, ⟨by decide, by decide⟩, by decide +kernel, Or.inl wi_388⟩
theorem M_X10_72 : mV RX10 72 yX8_hasRoomFor cX8_hasRoomFor 2 (some FieldType.boolean) 1 := ⟨wi_395, wi_42, ⟨by decide, by decide⟩, by decide +kernel, Or.inl wi_392⟩
theorem M_X10_75 : mV RX10 75 yX8_addBits cX8_addBits 4 (none : Option Jvm.ClassFile.FieldType) 2 := ⟨wi_399, wi_42, ⟨by decide, by decide⟩, by decide +kernel, Or.inl wi_396⟩
theorem M_L_33 : mV RL 33 yX10_octet cX10_octet 2 (some FieldType.int) 1 := ⟨wi_403, wi_41, ⟨by decide, by decide⟩, by decide +kernel, Or.inl wi_400⟩
theorem M_X10_83 : mV RX10 83 yX8_addOctet cX8_addOctet 2 (none : Option Jvm.ClassFile.FieldType) 1 := ⟨wi_407, wi_42, ⟨by decide, by decide⟩, by decide +kernel, Or.inl wi_404⟩
theorem M_X8_19 : mV RX8 19 yX3_octetsOf cX3_octetsOf 10 (some FieldType.long) 2 := ⟨wi_410, wi_60, ⟨by decide, by decide⟩, by decide +kernel, Or.inl wi_408⟩
theorem M_X3_11 : mV RX3 11 yJ13_bitCount_95d88 cJ13_bitCount_95d88 2 (some FieldType.int) 1 := ⟨wi_414, wi_61, ⟨by decide, by decide⟩, by decide +kernel, Or.inl wi_412⟩
theorem M_X8_25 : mV RX8 25 yX8_addBits cX8_addBits 4 (none : Option Jvm.ClassFile.FieldType) 2 := ⟨wi_399, wi_42, ⟨by decide, by decide⟩, by decide +kernel, Or.inl wi_418⟩
theorem M_L_38 : mV RL 38 yX10_check cX10_check 2 (some FieldType.int) 0 := ⟨wi_422, wi_41, ⟨by decide, by decide⟩, by decide +kernel, Or.inl wi_419⟩
theorem M_X10_86 : mV RX10 86 yX8_beginsWithOctets cX8_beginsWithOctets 3 (some FieldType.boolean) 1 := ⟨wi_426, wi_42, ⟨by decide, by decide⟩, by decide +kernel, Or.inl wi_423⟩
theorem M_X8_37 : mV RX8 37 yX8_valueAt cX8_valueAt 5 (some FieldType.int) 2 := ⟨wi_430, wi_42, ⟨by decide, by decide⟩, by decide +kernel, Or.inl wi_427⟩
theorem M_X8_41 : mV RX8 41 yJ6_bitCount_0f7a4 cJ6_bitCount_0f7a4 1 (some FieldType.int) 1 := ⟨wi_433, wi_62, ⟨by decide, by decide⟩, by decide +kernel, Or.inl wi_431⟩
theorem M_X10_89 : mV RX10 89 yX8_addCheck cX8_addCheck 2 (none : Option Jvm.ClassFile.FieldType) 0 := ⟨wi_440, wi_42, ⟨by decide, by decide⟩, by decide +kernel, Or.inl wi_437⟩
theorem M_X8_29 : mV RX8 29 yX8_checkOf cX8_checkOf 4 (some FieldType.int) 1 := ⟨wi_444, wi_42, ⟨by decide, by decide⟩, by decide +kernel, Or.inl wi_441⟩
theorem M_X8_46 : mV RX8 46 yX3_checkStep cX3_checkStep 3 (some FieldType.int) 2 := ⟨wi_447, wi_60, ⟨by decide, by decide⟩, by decide +kernel, Or.inl wi_445⟩
theorem M_X8_33 : mV RX8 33 yX8_addOctet cX8_addOctet 2 (none : Option Jvm.ClassFile.FieldType) 1 := ⟨wi_407, wi_42, ⟨by decide, by decide⟩, by decide +kernel, Or.inl wi_449⟩
theorem M_L_43 : mV RL 43 yX10_go cX10_go 2 (some FieldType.int) 0 := ⟨wi_453, wi_41, ⟨by decide, by decide⟩, by decide +kernel, Or.inl wi_450⟩
theorem M_X10_92 : mV RX10 92 yX1_send cX1_send 5 (some FieldType.int) 2 := ⟨wi_457, wi_44, ⟨by decide, by decide⟩, by decide +kernel, Or.inl wi_454⟩
theorem M_X1_60 : mV RX1 60 yX2_clear cX2_clear 1 (none : Option Jvm.ClassFile.FieldType) 0 := ⟨wi_461, wi_43, ⟨by decide, by decide⟩, by decide +kernel, Or.inl wi_458⟩
theorem M_X1_65 : mV RX1 65 yX4_read cX4_read 5 (none : Option Jvm.ClassFile.FieldType) 1 := ⟨wi_465, wi_48, ⟨by decide, by decide⟩, by decide +kernel, Or.inl wi_462⟩
theorem M_X4_26 : mV RX4 26 yX8_valueAt cX8_valueAt 5 (some FieldType.int) 2 := ⟨wi_430, wi_42, ⟨by decide, by decide⟩, by decide +kernel, Or.inl wi_466⟩
theorem M_X4_33 : mV RX4 33 yX4_levelOf cX4_levelOf 2 (some FieldType.int) 1 := ⟨wi_469, wi_48, ⟨by decide, by decide⟩, by decide +kernel, Or.inl wi_467⟩
theorem M_X4_87 : mV RX4 87 yX4_levelByte cX4_levelByte 1 (some FieldType.int) 1 := ⟨wi_472, wi_48, ⟨by decide, by decide⟩, by decide +kernel, Or.inl wi_470⟩
theorem M_X4_40 : mV RX4 40 yX4_kindOfShort cX4_kindOfShort 1 (some (FieldType.object "TagField$Kind")) 1 := ⟨wi_475, wi_48, ⟨by decide, by decide⟩, by decide +kernel, Or.inl wi_473⟩
theorem M_X4_44 : mV RX4 44 yX8_beginsWithOctets cX8_beginsWithOctets 3 (some FieldType.boolean) 1 := ⟨wi_426, wi_42, ⟨by decide, by decide⟩, by decide +kernel, Or.inl wi_480⟩
theorem M_X4_51 : mV RX4 51 yX4_readTold cX4_readTold 5 (none : Option Jvm.ClassFile.FieldType) 3 := ⟨wi_486, wi_48, ⟨by decide, by decide⟩, by decide +kernel, Or.inl wi_483⟩
theorem M_X4_55 : mV RX4 55 yX8_checkOf cX8_checkOf 4 (some FieldType.int) 1 := ⟨wi_444, wi_42, ⟨by decide, by decide⟩, by decide +kernel, Or.inl wi_487⟩
theorem M_X4_61 : mV RX4 61 yX4_kindOfCommand cX4_kindOfCommand 3 (some (FieldType.object "TagField$Kind")) 2 := ⟨wi_493, wi_48, ⟨by decide, by decide⟩, by decide +kernel, Or.inl wi_490⟩
theorem M_X1_69 : mV RX1 69 yX9_hear cX9_hear 3 (some (FieldType.object "TagField$Reply")) 1 := ⟨wi_503, wi_53, ⟨by decide, by decide⟩, by decide +kernel, Or.inl wi_500⟩
theorem M_X9_59 : mV RX9 59 yX9_becomeReady cX9_becomeReady 2 (some (FieldType.object "TagField$Reply")) 1 := ⟨wi_509, wi_53, ⟨by decide, by decide⟩, by decide +kernel, Or.inl wi_506⟩
theorem M_X9_82 : mV RX9 82 yX9_become cX9_become 3 (some (FieldType.object "TagField$Reply")) 2 := ⟨wi_515, wi_53, ⟨by decide, by decide⟩, by decide +kernel, Or.inl wi_512⟩
theorem M_X9_69 : mV RX9 69 yX9_hearReady cX9_hearReady 3 (some (FieldType.object "TagField$Reply")) 1 := ⟨wi_521, wi_53, ⟨by decide, by decide⟩, by decide +kernel, Or.inl wi_518⟩
theorem M_X9_93 : mV RX9 93 yX9_showsWhatIsTold cX9_showsWhatIsTold 4 (some FieldType.boolean) 1 := ⟨wi_526, wi_53, ⟨by decide, by decide⟩, by decide +kernel, Or.inl wi_523⟩
theorem M_X9_103 : mV RX9 103 yX9_becomeChosen cX9_becomeChosen 1 (some (FieldType.object "TagField$Reply")) 0 := ⟨wi_533, wi_53, ⟨by decide, by decide⟩, by decide +kernel, Or.inl wi_530⟩
theorem M_X9_107 : mV RX9 107 yX9_goBack cX9_goBack 1 (some (FieldType.object "TagField$Reply")) 0 := ⟨wi_541, wi_53, ⟨by decide, by decide⟩, by decide +kernel, Or.inl wi_538⟩
theorem M_X9_73 : mV RX9 73 yX9_hearActive cX9_hearActive 2 (some (FieldType.object "TagField$Reply")) 1 := ⟨wi_545, wi_53, ⟨by decide, by decide⟩, by decide +kernel, Or.inl wi_542⟩
theorem M_X1_73 : mV RX1 73 yX9_say cX9_say 9 (none : Option Jvm.ClassFile.FieldType) 3 := ⟨wi_556, wi_53, ⟨by decide, by decide⟩, by decide +kernel, Or.inl wi_553⟩
theorem M_X9_142 : mV RX9 142 yX3_octetsOf cX3_octetsOf 10 (some FieldType.long) 2 := ⟨wi_410, wi_60, ⟨by decide, by decide⟩, by decide +kernel, Or.inl wi_565⟩
theorem M_X9_148 : mV RX9 148 yX2_lay cX2_lay 6 (none : Option Jvm.ClassFile.FieldType) 2 := ⟨wi_569, wi_43, ⟨by decide, by decide⟩, by decide +kernel, Or.inl wi_566⟩
theorem M_X2_24 : mV RX2 24 yJ9_max_7cf53 cJ9_max_7cf53 2 (some FieldType.int) 2 := ⟨wi_326, wi_57, ⟨by decide, by decide⟩, by decide +kernel, Or.inl wi_571⟩
theorem M_X9_156 : mV RX9 156 yX3_checkedOctetsOf cX3_checkedOctetsOf 5 (some FieldType.long) 2 := ⟨wi_575, wi_60, ⟨by decide, by decide⟩, by decide +kernel, Or.inl wi_573⟩
theorem M_X3_20 : mV RX3 20 yX3_checkStep cX3_checkStep 3 (some FieldType.int) 2 := ⟨wi_447, wi_60, ⟨by decide, by decide⟩, by decide +kernel, Or.inl wi_576⟩
theorem M_X3_24 : mV RX3 24 yX3_octetsOf cX3_octetsOf 10 (some FieldType.long) 2 := ⟨wi_410, wi_60, ⟨by decide, by decide⟩, by decide +kernel, Or.inl wi_577⟩
theorem M_X10_96 : mV RX10 96 yX8_clear cX8_clear 1 (none : Option Jvm.ClassFile.FieldType) 0 := ⟨wi_583, wi_42, ⟨by decide, by decide⟩, by decide +kernel, Or.inl wi_580⟩
theorem M_L_47 : mV RL 47 yX10_answer cX10_answer 2 (some FieldType.int) 1 := ⟨wi_587, wi_41, ⟨by decide, by decide⟩, by decide +kernel, Or.inl wi_584⟩
theorem M_X10_99 : mV RX10 99 yX2_bitAt cX2_bitAt 4 (some FieldType.int) 1 := ⟨wi_591, wi_43, ⟨by decide, by decide⟩, by decide +kernel, Or.inl wi_588⟩
theorem M_L_51 : mV RL 51 yX10_state cX10_state 2 (some FieldType.int) 1 := ⟨wi_595, wi_41, ⟨by decide, by decide⟩, by decide +kernel, Or.inl wi_592⟩
theorem M_X10_103 : mV RX10 103 yX1_stateOf cX1_stateOf 2 (some FieldType.int) 1 := ⟨wi_599, wi_44, ⟨by decide, by decide⟩, by decide +kernel, Or.inl wi_596⟩
theorem M_X1_53 : mV RX1 53 yX9_stateAndLevel cX9_stateAndLevel 2 (some FieldType.int) 0 := ⟨wi_603, wi_53, ⟨by decide, by decide⟩, by decide +kernel, Or.inl wi_600⟩
theorem M_L_55 : mV RL 55 yX10_round cX10_round 2 (some FieldType.int) 0 := ⟨wi_607, wi_41, ⟨by decide, by decide⟩, by decide +kernel, Or.inl wi_604⟩
theorem M_X10_106 : mV RX10 106 yX6_forget cX6_forget 1 (none : Option Jvm.ClassFile.FieldType) 0 := ⟨wi_611, wi_51, ⟨by decide, by decide⟩, by decide +kernel, Or.inl wi_608⟩
theorem M_X10_109 : mV RX10 109 yX6_findOne cX6_findOne 4 (some FieldType.boolean) 1 := ⟨wi_615, wi_51, ⟨by decide, by decide⟩, by decide +kernel, Or.inl wi_612⟩
theorem M_X6_38 : mV RX6 38 yX8_clear cX8_clear 1 (none : Option Jvm.ClassFile.FieldType) 0 := ⟨wi_583, wi_42, ⟨by decide, by decide⟩, by decide +kernel, Or.inl wi_616⟩
theorem M_X6_41 : mV RX6 41 yX8_addBits cX8_addBits 4 (none : Option Jvm.ClassFile.FieldType) 2 := ⟨wi_399, wi_42, ⟨by decide, by decide⟩, by decide +kernel, Or.inl wi_617⟩
theorem M_X6_45 : mV RX6 45 yX1_send cX1_send 5 (some FieldType.int) 2 := ⟨wi_457, wi_44, ⟨by decide, by decide⟩, by decide +kernel, Or.inl wi_618⟩
theorem M_X6_51 : mV RX6 51 yX6_searchLevel cX6_searchLevel 4 (some FieldType.boolean) 2 := ⟨wi_622, wi_51, ⟨by decide, by decide⟩, by decide +kernel, Or.inl wi_619⟩
theorem M_X6_76 : mV RX6 76 yX6_layOutSearch cX6_layOutSearch 5 (none : Option Jvm.ClassFile.FieldType) 1 := ⟨wi_626, wi_51, ⟨by decide, by decide⟩, by decide +kernel, Or.inl wi_623⟩
theorem M_X6_82 : mV RX6 82 yX4_levelByte cX4_levelByte 1 (some FieldType.int) 1 := ⟨wi_472, wi_48, ⟨by decide, by decide⟩, by decide +kernel, Or.inl wi_627⟩
theorem M_X6_88 : mV RX6 88 yX8_addOctet cX8_addOctet 2 (none : Option Jvm.ClassFile.FieldType) 1 := ⟨wi_407, wi_42, ⟨by decide, by decide⟩, by decide +kernel, Or.inl wi_628⟩
theorem M_X6_91 : mV RX6 91 yX6_knownByte cX6_knownByte 2 (some FieldType.int) 1 := ⟨wi_632, wi_51, ⟨by decide, by decide⟩, by decide +kernel, Or.inl wi_629⟩
theorem M_X6_79 : mV RX6 79 yX6_learn cX6_learn 4 (none : Option Jvm.ClassFile.FieldType) 0 := ⟨wi_636, wi_51, ⟨by decide, by decide⟩, by decide +kernel, Or.inl wi_633⟩
theorem M_X6_94 : mV RX6 94 yX2_bitAt cX2_bitAt 4 (some FieldType.int) 1 := ⟨wi_591, wi_43, ⟨by decide, by decide⟩, by decide +kernel, Or.inl wi_637⟩
theorem M_X6_55 : mV RX6 55 yX6_choose cX6_choose 4 (some FieldType.boolean) 2 := ⟨wi_641, wi_51, ⟨by decide, by decide⟩, by decide +kernel, Or.inl wi_638⟩
theorem M_X6_97 : mV RX6 97 yX8_addCheck cX8_addCheck 2 (none : Option Jvm.ClassFile.FieldType) 0 := ⟨wi_440, wi_42, ⟨by decide, by decide⟩, by decide +kernel, Or.inl wi_642⟩
theorem M_X6_58 : mV RX6 58 yX2_beginsWith cX2_beginsWith 2 (some FieldType.boolean) 1 := ⟨wi_646, wi_43, ⟨by decide, by decide⟩, by decide +kernel, Or.inl wi_643⟩
theorem M_X6_62 : mV RX6 62 yX6_keepBytes cX6_keepBytes 3 (none : Option Jvm.ClassFile.FieldType) 1 := ⟨wi_651, wi_51, ⟨by decide, by decide⟩, by decide +kernel, Or.inl wi_648⟩
theorem M_X6_65 : mV RX6 65 yX6_halt cX6_halt 2 (none : Option Jvm.ClassFile.FieldType) 1 := ⟨wi_655, wi_51, ⟨by decide, by decide⟩, by decide +kernel, Or.inl wi_652⟩
theorem M_L_59 : mV RL 59 yX10_found cX10_found 3 (some FieldType.int) 2 := ⟨wi_659, wi_41, ⟨by decide, by decide⟩, by decide +kernel, Or.inl wi_656⟩
theorem M_X10_115 : mV RX10 115 yX6_byteFound cX6_byteFound 3 (some FieldType.int) 2 := ⟨wi_663, wi_51, ⟨by decide, by decide⟩, by decide +kernel, Or.inl wi_660⟩
theorem M_L_63 : mV RL 63 yX10_frames cX10_frames 1 (some FieldType.int) 0 := ⟨wi_667, wi_41, ⟨by decide, by decide⟩, by decide +kernel, Or.inl wi_664⟩
theorem M_L_12 : mV RL 12 yX11_init cX11_init 1 (none : Option Jvm.ClassFile.FieldType) 0 := ⟨wi_672, wi_52, ⟨by decide, by decide⟩, by decide +kernel, Or.inl wi_670⟩
theorem M_L_17 : mV RL 17 yX11_tag cX11_tag 10 (some FieldType.int) 4 := ⟨wi_766, wi_52, ⟨by decide, by decide⟩, by decide +kernel, Or.inl wi_763⟩
theorem M_X11_63 : mV RX11 63 yX11_byteFrom cX11_byteFrom 6 (some FieldType.int) 4 := ⟨wi_770, wi_52, ⟨by decide, by decide⟩, by decide +kernel, Or.inl wi_767⟩
theorem M_X11_71 : mV RX11 71 yX11_show cX11_show 10 (none : Option Jvm.ClassFile.FieldType) 6 := ⟨wi_774, wi_52, ⟨by decide, by decide⟩, by decide +kernel, Or.inl wi_771⟩
theorem M_L_22 : mV RL 22 yX11_out cX11_out 3 (some FieldType.int) 2 := ⟨wi_778, wi_52, ⟨by decide, by decide⟩, by decide +kernel, Or.inl wi_775⟩
theorem M_X11_75 : mV RX11 75 yX11_isTag cX11_isTag 2 (some FieldType.boolean) 1 := ⟨wi_782, wi_52, ⟨by decide, by decide⟩, by decide +kernel, Or.inl wi_779⟩
theorem M_L_27 : mV RL 27 yX11_field cX11_field 3 (some FieldType.int) 1 := ⟨wi_786, wi_52, ⟨by decide, by decide⟩, by decide +kernel, Or.inl wi_783⟩
theorem M_L_32 : mV RL 32 yX11_bits cX11_bits 4 (some FieldType.int) 2 := ⟨wi_790, wi_52, ⟨by decide, by decide⟩, by decide +kernel, Or.inl wi_787⟩
theorem M_L_37 : mV RL 37 yX11_octet cX11_octet 2 (some FieldType.int) 1 := ⟨wi_794, wi_52, ⟨by decide, by decide⟩, by decide +kernel, Or.inl wi_791⟩
theorem M_X11_86 : mV RX11 86 yX11_type cX11_type 3 (some FieldType.int) 1 := ⟨wi_798, wi_52, ⟨by decide, by decide⟩, by decide +kernel, Or.inl wi_795⟩
theorem M_X11_82 : mV RX11 82 yX11_parity cX11_parity 3 (some FieldType.int) 1 := ⟨wi_801, wi_52, ⟨by decide, by decide⟩, by decide +kernel, Or.inl wi_799⟩
theorem M_L_42 : mV RL 42 yX11_check cX11_check 4 (some FieldType.int) 0 := ⟨wi_805, wi_52, ⟨by decide, by decide⟩, by decide +kernel, Or.inl wi_802⟩
theorem M_X11_90 : mV RX11 90 yX11_read cX11_read 4 (some FieldType.int) 2 := ⟨wi_808, wi_52, ⟨by decide, by decide⟩, by decide +kernel, Or.inl wi_806⟩
theorem M_X11_94 : mV RX11 94 yX11_checked cX11_checked 3 (some FieldType.int) 2 := ⟨wi_811, wi_52, ⟨by decide, by decide⟩, by decide +kernel, Or.inl wi_809⟩
theorem M_L_46 : mV RL 46 yX11_go cX11_go 2 (some FieldType.int) 0 := ⟨wi_816, wi_52, ⟨by decide, by decide⟩, by decide +kernel, Or.inl wi_813⟩
theorem M_X11_148 : mV RX11 148 yX11_send cX11_send 3 (none : Option Jvm.ClassFile.FieldType) 0 := ⟨wi_820, wi_52, ⟨by decide, by decide⟩, by decide +kernel, Or.inl wi_817⟩
theorem M_X11_142 : mV RX11 142 yX11_understand cX11_understand 7 (none : Option Jvm.ClassFile.FieldType) 0 := ⟨wi_824, wi_52, ⟨by decide, by decide⟩, by decide +kernel, Or.inl wi_821⟩
theorem M_X11_145 : mV RX11 145 yX11_hear cX11_hear 6 (none : Option Jvm.ClassFile.FieldType) 1 := ⟨wi_828, wi_52, ⟨by decide, by decide⟩, by decide +kernel, Or.inl wi_825⟩
theorem M_X11_117 : mV RX11 117 yX11_begin cX11_begin 3 (none : Option Jvm.ClassFile.FieldType) 2 := ⟨wi_832, wi_52, ⟨by decide, by decide⟩, by decide +kernel, Or.inl wi_829⟩
theorem M_X11_113 : mV RX11 113 yX11_say cX11_say 3 (none : Option Jvm.ClassFile.FieldType) 1 := ⟨wi_836, wi_52, ⟨by decide, by decide⟩, by decide +kernel, Or.inl wi_833⟩
theorem M_X11_121 : mV RX11 121 yX11_shows cX11_shows 4 (some FieldType.boolean) 1 := ⟨wi_840, wi_52, ⟨by decide, by decide⟩, by decide +kernel, Or.inl wi_837⟩
theorem M_X11_124 : mV RX11 124 yX11_sayRest cX11_sayRest 6 (none : Option Jvm.ClassFile.FieldType) 1 := ⟨wi_844, wi_52, ⟨by decide, by decide⟩, by decide +kernel, Or.inl wi_841⟩
theorem M_X11_127 : mV RX11 127 yX11_levels cX11_levels 2 (some FieldType.int) 1 := ⟨wi_848, wi_52, ⟨by decide, by decide⟩, by decide +kernel, Or.inl wi_845⟩
theorem M_X11_130 : mV RX11 130 yX11_sayChecked cX11_sayChecked 4 (none : Option Jvm.ClassFile.FieldType) 1 := ⟨wi_852, wi_52, ⟨by decide, by decide⟩, by decide +kernel, Or.inl wi_849⟩
theorem M_X11_133 : mV RX11 133 yX11_back cX11_back 2 (none : Option Jvm.ClassFile.FieldType) 1 := ⟨wi_856, wi_52, ⟨by decide, by decide⟩, by decide +kernel, Or.inl wi_853⟩
theorem M_L_50 : mV RL 50 yX11_answer cX11_answer 2 (some FieldType.int) 1 := ⟨wi_860, wi_52, ⟨by decide, by decide⟩, by decide +kernel, Or.inl wi_857⟩
theorem M_L_54 : mV RL 54 yX11_state cX11_state 2 (some FieldType.int) 1 := ⟨wi_864, wi_52, ⟨by decide, by decide⟩, by decide +kernel, Or.inl wi_861⟩
theorem M_L_58 : mV RL 58 yX11_round cX11_round 7 (some FieldType.int) 0 := ⟨wi_868, wi_52, ⟨by decide, by decide⟩, by decide +kernel, Or.inl wi_865⟩
theorem M_X11_172 : mV RX11 172 yX11_sendShort cX11_sendShort 3 (none : Option Jvm.ClassFile.FieldType) 1 := ⟨wi_872, wi_52, ⟨by decide, by decide⟩, by decide +kernel, Or.inl wi_869⟩
theorem M_X11_175 : mV RX11 175 yX11_knows cX11_knows 4 (some FieldType.boolean) 1 := ⟨wi_876, wi_52, ⟨by decide, by decide⟩, by decide +kernel, Or.inl wi_873⟩
theorem M_X11_163 : mV RX11 163 yX11_sendSearch cX11_sendSearch 3 (none : Option Jvm.ClassFile.FieldType) 1 := ⟨wi_880, wi_52, ⟨by decide, by decide⟩, by decide +kernel, Or.inl wi_877⟩
theorem M_X11_154 : mV RX11 154 yX11_put cX11_put 3 (none : Option Jvm.ClassFile.FieldType) 1 := ⟨wi_884, wi_52, ⟨by decide, by decide⟩, by decide +kernel, Or.inl wi_881⟩
theorem M_X11_160 : mV RX11 160 yX11_knownByte cX11_knownByte 4 (some FieldType.int) 1 := ⟨wi_888, wi_52, ⟨by decide, by decide⟩, by decide +kernel, Or.inl wi_885⟩
theorem M_X11_178 : mV RX11 178 yX11_chooses cX11_chooses 4 (some FieldType.int) 1 := ⟨wi_892, wi_52, ⟨by decide, by decide⟩, by decide +kernel, Or.inl wi_889⟩
theorem M_X11_166 : mV RX11 166 yX11_putChecked cX11_putChecked 3 (none : Option Jvm.ClassFile.FieldType) 0 := ⟨wi_896, wi_52, ⟨by decide, by decide⟩, by decide +kernel, Or.inl wi_893⟩
theorem M_L_62 : mV RL 62 yX11_found cX11_found 3 (some FieldType.int) 2 := ⟨wi_900, wi_52, ⟨by decide, by decide⟩, by decide +kernel, Or.inl wi_897⟩
theorem M_L_66 : mV RL 66 yX11_frames cX11_frames 1 (some FieldType.int) 0 := ⟨wi_904, wi_52, ⟨by decide, by decide⟩, by decide +kernel, Or.inl wi_901⟩
theorem I_X1_init : Cond.instanceMethod yX1_init ∈ tb := wi_109
theorem I_X1_count : Cond.instanceMethod yX1_count ∈ tb := wi_294
theorem V_X1_count : Cond.selects yX1_count.cls yX1_count yX1_count ∈ tb := wi_295
theorem I_X1_knows : Cond.instanceMethod yX1_knows ∈ tb := wi_368
theorem V_X1_knows : Cond.selects yX1_knows.cls yX1_knows yX1_knows ∈ tb := wi_369
theorem I_X1_knowsNumberOf : Cond.instanceMethod yX1_knowsNumberOf ∈ tb := wi_267
theorem V_X1_knowsNumberOf : Cond.selects yX1_knowsNumberOf.cls yX1_knowsNumberOf yX1_knowsNumberOf ∈ tb := wi_268
theorem I_X1_bring : Cond.instanceMethod yX1_bring ∈ tb := wi_298
theorem V_X1_bring : Cond.selects yX1_bring.cls yX1_bring yX1_bring ∈ tb := wi_299
theorem I_X1_move : Cond.instanceMethod yX1_move ∈ tb := wi_372
theorem V_X1_move : Cond.selects yX1_move.cls yX1_move yX1_move ∈ tb := wi_373
theorem I_X1_turn : Cond.instanceMethod yX1_turn ∈ tb := wi_385
theorem V_X1_turn : Cond.selects yX1_turn.cls yX1_turn yX1_turn ∈ tb := wi_386
theorem I_X1_stateOf : Cond.instanceMethod yX1_stateOf ∈ tb := wi_597
theorem V_X1_stateOf : Cond.selects yX1_stateOf.cls yX1_stateOf yX1_stateOf ∈ tb := wi_598
theorem I_X1_send : Cond.instanceMethod yX1_send ∈ tb := wi_455
theorem V_X1_send : Cond.selects yX1_send.cls yX1_send yX1_send ∈ tb := wi_456
theorem I_X2_init : Cond.instanceMethod yX2_init ∈ tb := wi_92
theorem I_X2_clear : Cond.instanceMethod yX2_clear ∈ tb := wi_459
theorem V_X2_clear : Cond.selects yX2_clear.cls yX2_clear yX2_clear ∈ tb := wi_460
theorem I_X2_lay : Cond.instanceMethod yX2_lay ∈ tb := wi_567
theorem V_X2_lay : Cond.selects yX2_lay.cls yX2_lay yX2_lay ∈ tb := wi_568
theorem I_X2_bitAt : Cond.instanceMethod yX2_bitAt ∈ tb := wi_589
theorem V_X2_bitAt : Cond.selects yX2_bitAt.cls yX2_bitAt yX2_bitAt ∈ tb := wi_590
theorem I_X2_beginsWith : Cond.instanceMethod yX2_beginsWith ∈ tb := wi_644
theorem V_X2_beginsWith : Cond.selects yX2_beginsWith.cls yX2_beginsWith yX2_beginsWith ∈ tb := wi_645
theorem S_X3_octetsOf : Cond.static yX3_octetsOf ∈ tb := wi_409
theorem S_X3_checkStep : Cond.static yX3_checkStep ∈ tb := wi_446
theorem S_X3_checkedOctetsOf : Cond.static yX3_checkedOctetsOf ∈ tb := wi_574
theorem I_X4_init : Cond.instanceMethod yX4_init ∈ tb := wi_141
theorem I_X4_read : Cond.instanceMethod yX4_read ∈ tb := wi_463
theorem V_X4_read : Cond.selects yX4_read.cls yX4_read yX4_read ∈ tb := wi_464
theorem S_X4_kindOfShort : Cond.static yX4_kindOfShort ∈ tb := wi_474
theorem I_X4_kindOfCommand : Cond.instanceMethod yX4_kindOfCommand ∈ tb := wi_492
theorem V_X4_kindOfCommand : Cond.selects yX4_kindOfCommand.cls yX4_kindOfCommand yX4_kindOfCommand ∈ tb := wi_4
theorem I_X4_readTold : Cond.instanceMethod yX4_readTold ∈ tb := wi_485
theorem V_X4_readTold : Cond.selects yX4_readTold.cls yX4_readTold yX4_readTold ∈ tb := wi_3
theorem S_X4_levelOf : Cond.static yX4_levelOf ∈ tb := wi_468
theorem S_X4_levelByte : Cond.static yX4_levelByte ∈ tb := wi_471
theorem I_X6_init : Cond.instanceMethod yX6_init ∈ tb := wi_184
theorem I_X6_forget : Cond.instanceMethod yX6_forget ∈ tb := wi_609
theorem V_X6_forget : Cond.selects yX6_forget.cls yX6_forget yX6_forget ∈ tb := wi_610
theorem I_X6_byteFound : Cond.instanceMethod yX6_byteFound ∈ tb := wi_661
theorem V_X6_byteFound : Cond.selects yX6_byteFound.cls yX6_byteFound yX6_byteFound ∈ tb := wi_662
theorem I_X6_findOne : Cond.instanceMethod yX6_findOne ∈ tb := wi_613
theorem V_X6_findOne : Cond.selects yX6_findOne.cls yX6_findOne yX6_findOne ∈ tb := wi_614
theorem I_X6_searchLevel : Cond.instanceMethod yX6_searchLevel ∈ tb := wi_621
theorem V_X6_searchLevel : Cond.selects yX6_searchLevel.cls yX6_searchLevel yX6_searchLevel ∈ tb := wi_12
theorem I_X6_layOutSearch : Cond.instanceMethod yX6_layOutSearch ∈ tb := wi_625
theorem V_X6_layOutSearch : Cond.selects yX6_layOutSearch.cls yX6_layOutSearch yX6_layOutSearch ∈ tb := wi_13
theorem I_X6_learn : Cond.instanceMethod yX6_learn ∈ tb := wi_635
theorem V_X6_learn : Cond.selects yX6_learn.cls yX6_learn yX6_learn ∈ tb := wi_15
theorem I_X6_choose : Cond.instanceMethod yX6_choose ∈ tb := wi_640
theorem V_X6_choose : Cond.selects yX6_choose.cls yX6_choose yX6_choose ∈ tb := wi_16
theorem I_X6_halt : Cond.instanceMethod yX6_halt ∈ tb := wi_654
theorem V_X6_halt : Cond.selects yX6_halt.cls yX6_halt yX6_halt ∈ tb := wi_18
theorem I_X6_knownByte : Cond.instanceMethod yX6_knownByte ∈ tb := wi_631
theorem V_X6_knownByte : Cond.selects yX6_knownByte.cls yX6_knownByte yX6_knownByte ∈ tb := wi_14
theorem I_X6_keepBytes : Cond.instanceMethod yX6_keepBytes ∈ tb := wi_650
theorem V_X6_keepBytes : Cond.selects yX6_keepBytes.cls yX6_keepBytes yX6_keepBytes ∈ tb := wi_17
theorem I_X8_init : Cond.instanceMethod yX8_init ∈ tb := wi_76
theorem I_X8_clear : Cond.instanceMethod yX8_clear ∈ tb := wi_581
theorem V_X8_clear : Cond.selects yX8_clear.cls yX8_clear yX8_clear ∈ tb := wi_582
theorem I_X8_hasRoomFor : Cond.instanceMethod yX8_hasRoomFor ∈ tb := wi_393
theorem V_X8_hasRoomFor : Cond.selects yX8_hasRoomFor.cls yX8_hasRoomFor yX8_hasRoomFor ∈ tb := wi_394
theorem I_X8_addBits : Cond.instanceMethod yX8_addBits ∈ tb := wi_397
theorem V_X8_addBits : Cond.selects yX8_addBits.cls yX8_addBits yX8_addBits ∈ tb := wi_398
theorem I_X8_addOctet : Cond.instanceMethod yX8_addOctet ∈ tb := wi_405
theorem V_X8_addOctet : Cond.selects yX8_addOctet.cls yX8_addOctet yX8_addOctet ∈ tb := wi_406
theorem I_X8_addCheck : Cond.instanceMethod yX8_addCheck ∈ tb := wi_438
theorem V_X8_addCheck : Cond.selects yX8_addCheck.cls yX8_addCheck yX8_addCheck ∈ tb := wi_439
theorem I_X8_valueAt : Cond.instanceMethod yX8_valueAt ∈ tb := wi_428
theorem V_X8_valueAt : Cond.selects yX8_valueAt.cls yX8_valueAt yX8_valueAt ∈ tb := wi_429
theorem I_X8_beginsWithOctets : Cond.instanceMethod yX8_beginsWithOctets ∈ tb := wi_424
theorem V_X8_beginsWithOctets : Cond.selects yX8_beginsWithOctets.cls yX8_beginsWithOctets yX8_beginsWithOctets ∈ tb := wi_425
theorem I_X8_checkOf : Cond.instanceMethod yX8_checkOf ∈ tb := wi_442
theorem V_X8_checkOf : Cond.selects yX8_checkOf.cls yX8_checkOf yX8_checkOf ∈ tb := wi_443
theorem I_X9_init : Cond.instanceMethod yX9_init ∈ tb := wi_234
theorem S_X9_shownAt : Cond.static yX9_shownAt ∈ tb := wi_238
theorem S_X9_numberByte : Cond.static yX9_numberByte ∈ tb := wi_242
theorem I_X9_looksUnfinished : Cond.instanceMethod yX9_looksUnfinished ∈ tb := wi_263
theorem V_X9_looksUnfinished : Cond.selects yX9_looksUnfinished.cls yX9_looksUnfinished yX9_looksUnfinished ∈ tb := wi_264
theorem I_X9_hasNumberOf : Cond.instanceMethod yX9_hasNumberOf ∈ tb := wi_290
theorem V_X9_hasNumberOf : Cond.selects yX9_hasNumberOf.cls yX9_hasNumberOf yX9_hasNumberOf ∈ tb := wi_291
theorem I_X9_move : Cond.instanceMethod yX9_move ∈ tb := wi_376
theorem V_X9_move : Cond.selects yX9_move.cls yX9_move yX9_move ∈ tb := wi_377
theorem I_X9_beginAnew : Cond.instanceMethod yX9_beginAnew ∈ tb := wi_302
theorem V_X9_beginAnew : Cond.selects yX9_beginAnew.cls yX9_beginAnew yX9_beginAnew ∈ tb := wi_303
theorem I_X9_stateAndLevel : Cond.instanceMethod yX9_stateAndLevel ∈ tb := wi_601
theorem V_X9_stateAndLevel : Cond.selects yX9_stateAndLevel.cls yX9_stateAndLevel yX9_stateAndLevel ∈ tb := wi_602
theorem I_X9_hear : Cond.instanceMethod yX9_hear ∈ tb := wi_501
theorem V_X9_hear : Cond.selects yX9_hear.cls yX9_hear yX9_hear ∈ tb := wi_502
theorem I_X9_become : Cond.instanceMethod yX9_become ∈ tb := wi_514
theorem V_X9_become : Cond.selects yX9_become.cls yX9_become yX9_become ∈ tb := wi_6
theorem I_X9_becomeReady : Cond.instanceMethod yX9_becomeReady ∈ tb := wi_508
theorem V_X9_becomeReady : Cond.selects yX9_becomeReady.cls yX9_becomeReady yX9_becomeReady ∈ tb := wi_5
theorem I_X9_hearReady : Cond.instanceMethod yX9_hearReady ∈ tb := wi_520
theorem V_X9_hearReady : Cond.selects yX9_hearReady.cls yX9_hearReady yX9_hearReady ∈ tb := wi_7
theorem I_X9_showsWhatIsTold : Cond.instanceMethod yX9_showsWhatIsTold ∈ tb := wi_525
theorem V_X9_showsWhatIsTold : Cond.selects yX9_showsWhatIsTold.cls yX9_showsWhatIsTold yX9_showsWhatIsTold ∈ tb := wi_8
theorem I_X9_becomeChosen : Cond.instanceMethod yX9_becomeChosen ∈ tb := wi_532
theorem V_X9_becomeChosen : Cond.selects yX9_becomeChosen.cls yX9_becomeChosen yX9_becomeChosen ∈ tb := wi_9
theorem I_X9_hearActive : Cond.instanceMethod yX9_hearActive ∈ tb := wi_544
theorem V_X9_hearActive : Cond.selects yX9_hearActive.cls yX9_hearActive yX9_hearActive ∈ tb := wi_11
theorem I_X9_goBack : Cond.instanceMethod yX9_goBack ∈ tb := wi_540
theorem V_X9_goBack : Cond.selects yX9_goBack.cls yX9_goBack yX9_goBack ∈ tb := wi_10
theorem I_X9_say : Cond.instanceMethod yX9_say ∈ tb := wi_554
theorem V_X9_say : Cond.selects yX9_say.cls yX9_say yX9_say ∈ tb := wi_555
theorem I_X10_init : Cond.instanceMethod yX10_init ∈ tb := wi_68
theorem I_X10_tag : Cond.instanceMethod yX10_tag ∈ tb := wi_228
theorem V_X10_tag : Cond.selects yX10_tag.cls yX10_tag yX10_tag ∈ tb := wi_229
theorem I_X10_out : Cond.instanceMethod yX10_out ∈ tb := wi_364
theorem V_X10_out : Cond.selects yX10_out.cls yX10_out yX10_out ∈ tb := wi_365
theorem I_X10_field : Cond.instanceMethod yX10_field ∈ tb := wi_381
theorem V_X10_field : Cond.selects yX10_field.cls yX10_field yX10_field ∈ tb := wi_382
theorem I_X10_bits : Cond.instanceMethod yX10_bits ∈ tb := wi_389
theorem V_X10_bits : Cond.selects yX10_bits.cls yX10_bits yX10_bits ∈ tb := wi_390
theorem I_X10_octet : Cond.instanceMethod yX10_octet ∈ tb := wi_401
theorem V_X10_octet : Cond.selects yX10_octet.cls yX10_octet yX10_octet ∈ tb := wi_402
theorem I_X10_check : Cond.instanceMethod yX10_check ∈ tb := wi_420
theorem V_X10_check : Cond.selects yX10_check.cls yX10_check yX10_check ∈ tb := wi_421
theorem I_X10_go : Cond.instanceMethod yX10_go ∈ tb := wi_451
theorem V_X10_go : Cond.selects yX10_go.cls yX10_go yX10_go ∈ tb := wi_452
theorem I_X10_answer : Cond.instanceMethod yX10_answer ∈ tb := wi_585
theorem V_X10_answer : Cond.selects yX10_answer.cls yX10_answer yX10_answer ∈ tb := wi_586
theorem I_X10_state : Cond.instanceMethod yX10_state ∈ tb := wi_593
theorem V_X10_state : Cond.selects yX10_state.cls yX10_state yX10_state ∈ tb := wi_594
theorem I_X10_round : Cond.instanceMethod yX10_round ∈ tb := wi_605
theorem V_X10_round : Cond.selects yX10_round.cls yX10_round yX10_round ∈ tb := wi_606
theorem I_X10_found : Cond.instanceMethod yX10_found ∈ tb := wi_657
theorem V_X10_found : Cond.selects yX10_found.cls yX10_found yX10_found ∈ tb := wi_658
theorem I_X10_frames : Cond.instanceMethod yX10_frames ∈ tb := wi_665
theorem V_X10_frames : Cond.selects yX10_frames.cls yX10_frames yX10_frames ∈ tb := wi_666
theorem I_X11_init : Cond.instanceMethod yX11_init ∈ tb := wi_671
theorem I_X11_byteFrom : Cond.instanceMethod yX11_byteFrom ∈ tb := wi_769
theorem V_X11_byteFrom : Cond.selects yX11_byteFrom.cls yX11_byteFrom yX11_byteFrom ∈ tb := wi_19
theorem I_X11_show : Cond.instanceMethod yX11_show ∈ tb := wi_773
theorem V_X11_show : Cond.selects yX11_show.cls yX11_show yX11_show ∈ tb := wi_20
theorem I_X11_tag : Cond.instanceMethod yX11_tag ∈ tb := wi_764
theorem V_X11_tag : Cond.selects yX11_tag.cls yX11_tag yX11_tag ∈ tb := wi_765
theorem I_X11_levels : Cond.instanceMethod yX11_levels ∈ tb := wi_847
theorem V_X11_levels : Cond.selects yX11_levels.cls yX11_levels yX11_levels ∈ tb := wi_30
theorem I_X11_isTag : Cond.instanceMethod yX11_isTag ∈ tb := wi_781
theorem V_X11_isTag : Cond.selects yX11_isTag.cls yX11_isTag yX11_isTag ∈ tb := wi_21
theorem I_X11_out : Cond.instanceMethod yX11_out ∈ tb := wi_776
theorem V_X11_out : Cond.selects yX11_out.cls yX11_out yX11_out ∈ tb := wi_777
theorem I_X11_field : Cond.instanceMethod yX11_field ∈ tb := wi_784
theorem V_X11_field : Cond.selects yX11_field.cls yX11_field yX11_field ∈ tb := wi_785
theorem I_X11_bits : Cond.instanceMethod yX11_bits ∈ tb := wi_788
theorem V_X11_bits : Cond.selects yX11_bits.cls yX11_bits yX11_bits ∈ tb := wi_789
theorem S_X11_parity : Cond.static yX11_parity ∈ tb := wi_800
theorem I_X11_type : Cond.instanceMethod yX11_type ∈ tb := wi_797
theorem V_X11_type : Cond.selects yX11_type.cls yX11_type yX11_type ∈ tb := wi_22
theorem I_X11_octet : Cond.instanceMethod yX11_octet ∈ tb := wi_792
theorem V_X11_octet : Cond.selects yX11_octet.cls yX11_octet yX11_octet ∈ tb := wi_793
theorem S_X11_read : Cond.static yX11_read ∈ tb := wi_807
theorem S_X11_checked : Cond.static yX11_checked ∈ tb := wi_810
theorem I_X11_check : Cond.instanceMethod yX11_check ∈ tb := wi_803
theorem V_X11_check : Cond.selects yX11_check.cls yX11_check yX11_check ∈ tb := wi_804
theorem I_X11_understand : Cond.instanceMethod yX11_understand ∈ tb := wi_823
theorem V_X11_understand : Cond.selects yX11_understand.cls yX11_understand yX11_understand ∈ tb := wi_24
theorem I_X11_say : Cond.instanceMethod yX11_say ∈ tb := wi_835
theorem V_X11_say : Cond.selects yX11_say.cls yX11_say yX11_say ∈ tb := wi_27
theorem I_X11_sayChecked : Cond.instanceMethod yX11_sayChecked ∈ tb := wi_851
theorem V_X11_sayChecked : Cond.selects yX11_sayChecked.cls yX11_sayChecked yX11_sayChecked ∈ tb := wi_31
theorem I_X11_shows : Cond.instanceMethod yX11_shows ∈ tb := wi_839
theorem V_X11_shows : Cond.selects yX11_shows.cls yX11_shows yX11_shows ∈ tb := wi_28
theorem I_X11_sayRest : Cond.instanceMethod yX11_sayRest ∈ tb := wi_843
theorem V_X11_sayRest : Cond.selects yX11_sayRest.cls yX11_sayRest yX11_sayRest ∈ tb := wi_29
theorem I_X11_back : Cond.instanceMethod yX11_back ∈ tb := wi_855
theorem V_X11_back : Cond.selects yX11_back.cls yX11_back yX11_back ∈ tb := wi_32
theorem I_X11_begin : Cond.instanceMethod yX11_begin ∈ tb := wi_831
theorem V_X11_begin : Cond.selects yX11_begin.cls yX11_begin yX11_begin ∈ tb := wi_26
theorem I_X11_hear : Cond.instanceMethod yX11_hear ∈ tb := wi_827
theorem V_X11_hear : Cond.selects yX11_hear.cls yX11_hear yX11_hear ∈ tb := wi_25
theorem I_X11_send : Cond.instanceMethod yX11_send ∈ tb := wi_819
theorem V_X11_send : Cond.selects yX11_send.cls yX11_send yX11_send ∈ tb := wi_23
theorem I_X11_go : Cond.instanceMethod yX11_go ∈ tb := wi_814
theorem V_X11_go : Cond.selects yX11_go.cls yX11_go yX11_go ∈ tb := wi_815
theorem I_X11_answer : Cond.instanceMethod yX11_answer ∈ tb := wi_858
theorem V_X11_answer : Cond.selects yX11_answer.cls yX11_answer yX11_answer ∈ tb := wi_859
theorem I_X11_state : Cond.instanceMethod yX11_state ∈ tb := wi_862
theorem V_X11_state : Cond.selects yX11_state.cls yX11_state yX11_state ∈ tb := wi_863
theorem I_X11_put : Cond.instanceMethod yX11_put ∈ tb := wi_883
theorem V_X11_put : Cond.selects yX11_put.cls yX11_put yX11_put ∈ tb := wi_36
theorem I_X11_putChecked : Cond.instanceMethod yX11_putChecked ∈ tb := wi_895
theorem V_X11_putChecked : Cond.selects yX11_putChecked.cls yX11_putChecked yX11_putChecked ∈ tb := wi_39
theorem I_X11_sendShort : Cond.instanceMethod yX11_sendShort ∈ tb := wi_871
theorem V_X11_sendShort : Cond.selects yX11_sendShort.cls yX11_sendShort yX11_sendShort ∈ tb := wi_33
theorem I_X11_knownByte : Cond.instanceMethod yX11_knownByte ∈ tb := wi_887
theorem V_X11_knownByte : Cond.selects yX11_knownByte.cls yX11_knownByte yX11_knownByte ∈ tb := wi_37
theorem I_X11_sendSearch : Cond.instanceMethod yX11_sendSearch ∈ tb := wi_879
theorem V_X11_sendSearch : Cond.selects yX11_sendSearch.cls yX11_sendSearch yX11_sendSearch ∈ tb := wi_35
theorem I_X11_knows : Cond.instanceMethod yX11_knows ∈ tb := wi_875
theorem V_X11_knows : Cond.selects yX11_knows.cls yX11_knows yX11_knows ∈ tb := wi_34
theorem I_X11_chooses : Cond.instanceMethod yX11_chooses ∈ tb := wi_891
theorem V_X11_chooses : Cond.selects yX11_chooses.cls yX11_chooses yX11_chooses ∈ tb := wi_38
theorem I_X11_round : Cond.instanceMethod yX11_round ∈ tb := wi_866
theorem V_X11_round : Cond.selects yX11_round.cls yX11_round yX11_round ∈ tb := wi_867
theorem I_X11_found : Cond.instanceMethod yX11_found ∈ tb := wi_898
theorem V_X11_found : Cond.selects yX11_found.cls yX11_found yX11_found ∈ tb := wi_899
theorem I_X11_frames : Cond.instanceMethod yX11_frames ∈ tb := wi_902
theorem V_X11_frames : Cond.selects yX11_frames.cls yX11_frames yX11_frames ∈ tb := wi_903
theorem I_Jx29ce0_ordinal_8abf5 : Cond.instanceMethod yJx29ce0_ordinal_8abf5 ∈ tb := wi_563
theorem S_J6_bitCount_0f7a4 : Cond.static yJ6_bitCount_0f7a4 ∈ tb := wi_432
theorem S_J13_bitCount_95d88 : Cond.static yJ13_bitCount_95d88 ∈ tb := wi_413
theorem S_J9_max_7cf53 : Cond.static yJ9_max_7cf53 ∈ tb := wi_325
theorem S_J9_min_7cf53 : Cond.static yJ9_min_7cf53 ∈ tb := wi_356
theorem I_Jxa1e45_init_da8c8 : Cond.instanceMethod yJxa1e45_init_da8c8 ∈ tb := wi_121
theorem I_Jxc12de_init_da8c8 : Cond.instanceMethod yJxc12de_init_da8c8 ∈ tb := wi_118
theorem I_Jx4a65c_init_da8c8 : Cond.instanceMethod yJx4a65c_init_da8c8 ∈ tb := wi_115
theorem I_Jx4a65c_grow_92f84 : Cond.instanceMethod yJx4a65c_grow_92f84 ∈ tb := wi_319
theorem V_Jx4a65c_grow_92f84 : Cond.selects yJx4a65c_grow_92f84.cls yJx4a65c_grow_92f84 yJx4a65c_grow_92f84 ∈ tb := wi_2
theorem I_Jx4a65c_grow_d5877 : Cond.instanceMethod yJx4a65c_grow_d5877 ∈ tb := wi_315
theorem V_Jx4a65c_grow_d5877 : Cond.selects yJx4a65c_grow_d5877.cls yJx4a65c_grow_d5877 yJx4a65c_grow_d5877 ∈ tb := wi_1
theorem I_Jx4a65c_size_8abf5 : Cond.instanceMethod yJx4a65c_size_8abf5 ∈ tb := wi_271
theorem V_Jx4a65c_size_8abf5 : Cond.selects yJx4a65c_size_8abf5.cls yJx4a65c_size_8abf5 yJx4a65c_size_8abf5 ∈ tb := wi_272
theorem I_Jx4a65c_elementData_915e3 : Cond.instanceMethod yJx4a65c_elementData_915e3 ∈ tb := wi_285
theorem V_Jx4a65c_elementData_915e3 : Cond.selects yJx4a65c_elementData_915e3.cls yJx4a65c_elementData_915e3 yJx4a65c_elementData_915e3 ∈ tb := wi_286
theorem I_Jx4a65c_get_915e3 : Cond.instanceMethod yJx4a65c_get_915e3 ∈ tb := wi_275
theorem V_Jx4a65c_get_915e3 : Cond.selects yJx4a65c_get_915e3.cls yJx4a65c_get_915e3 yJx4a65c_get_915e3 ∈ tb := wi_276
theorem I_Jx4a65c_add_72be8 : Cond.instanceMethod yJx4a65c_add_72be8 ∈ tb := wi_311
theorem V_Jx4a65c_add_72be8 : Cond.selects yJx4a65c_add_72be8.cls yJx4a65c_add_72be8 yJx4a65c_add_72be8 ∈ tb := wi_0
theorem I_Jx4a65c_add_9ea2d : Cond.instanceMethod yJx4a65c_add_9ea2d ∈ tb := wi_306
theorem V_Jx4a65c_add_9ea2d : Cond.selects yJx4a65c_add_9ea2d.cls yJx4a65c_add_9ea2d yJx4a65c_add_9ea2d ∈ tb := wi_307
theorem S_J7_copyOf_1904c : Cond.static yJ7_copyOf_1904c ∈ tb := wi_332
theorem S_J7_copyOf_6403c : Cond.static yJ7_copyOf_6403c ∈ tb := wi_350
theorem S_J15_checkIndex_7cf53 : Cond.static yJ15_checkIndex_7cf53 ∈ tb := wi_279
theorem S_J8_newLength_cabcc : Cond.static yJ8_newLength_cabcc ∈ tb := wi_322
theorem S_J8_hugeLength_7cf53 : Cond.static yJ8_hugeLength_7cf53 ∈ tb := wi_329
theorem S_J3_checkIndex_8e157 : Cond.static yJ3_checkIndex_8e157 ∈ tb := wi_282
theorem NL_L_7 : Cond.classLink RL 7 RX10 ∈ tb := wi_65
theorem NL_X10_7 : Cond.classLink RX10 7 RX8 ∈ tb := wi_73
theorem NL_X10_18 : Cond.classLink RX10 18 RX2 ∈ tb := wi_89
theorem NL_X10_25 : Cond.classLink RX10 25 RX1 ∈ tb := wi_106
theorem NL_X1_7 : Cond.classLink RX1 7 RJx4a65c ∈ tb := wi_112
theorem NL_X1_16 : Cond.classLink RX1 16 RX4 ∈ tb := wi_138
theorem NL_X10_32 : Cond.classLink RX10 32 RX6 ∈ tb := wi_181
theorem NL_X6_9 : Cond.classLink RX6 9 RX8 ∈ tb := wi_187
theorem NL_X6_20 : Cond.classLink RX6 20 RX2 ∈ tb := wi_189
theorem NL_X10_39 : Cond.classLink RX10 39 RX9 ∈ tb := wi_231
theorem NL_X1_35 : Cond.classLink RX1 35 RX9 ∈ tb := wi_288
theorem NL_L_10 : Cond.classLink RL 10 RX11 ∈ tb := wi_668
theorem NI_X1 : Cond.instantiable RX1 4 ∈ tb ∧ Cond.initialized RX1 ∈ tb := ⟨wi_107, wi_44⟩
theorem NI_X2 : Cond.instantiable RX2 3 ∈ tb ∧ Cond.initialized RX2 ∈ tb := ⟨wi_90, wi_43⟩
theorem NI_X4 : Cond.instantiable RX4 5 ∈ tb ∧ Cond.initialized RX4 ∈ tb := ⟨wi_139, wi_48⟩
theorem NI_X6 : Cond.instantiable RX6 7 ∈ tb ∧ Cond.initialized RX6 ∈ tb := ⟨wi_182, wi_51⟩
theorem NI_X8 : Cond.instantiable RX8 2 ∈ tb ∧ Cond.initialized RX8 ∈ tb := ⟨wi_74, wi_42⟩
theorem NI_X9 : Cond.instantiable RX9 5 ∈ tb ∧ Cond.initialized RX9 ∈ tb := ⟨wi_232, wi_53⟩
theorem NI_X10 : Cond.instantiable RX10 4 ∈ tb ∧ Cond.initialized RX10 ∈ tb := ⟨wi_66, wi_41⟩
theorem NI_X11 : Cond.instantiable RX11 29 ∈ tb ∧ Cond.initialized RX11 ∈ tb := ⟨wi_669, wi_52⟩
theorem NI_Jx4a65c : Cond.instantiable RJx4a65c 3 ∈ tb ∧ Cond.initialized RJx4a65c ∈ tb := ⟨wi_113, wi_47⟩
end
section
theorem dX1_init_0 : decode cX1_init 0 = .ok (.aload_n 0, 1) := by decide +kernel
theorem dX1_init_1 : decode cX1_init 1 = .ok (.invokespecial 1, 3) := by decide +kernel
theorem dX1_init_4 : decode cX1_init 4 = .ok (.aload_n 0, 1) := by decide +kernel
theorem dX1_init_5 : decode cX1_init 5 = .ok (.new 7, 3) := by decide +kernel
theorem dX1_init_8 : decode cX1_init 8 = .ok (.dup, 1) := by decide +kernel
theorem dX1_init_9 : decode cX1_init 9 = .ok (.invokespecial 9, 3) := by decide +kernel
theorem dX1_init_12 : decode cX1_init 12 = .ok (.putfield 10, 3) := by decide +kernel
theorem dX1_init_15 : decode cX1_init 15 = .ok (.aload_n 0, 1) := by decide +kernel
theorem dX1_init_16 : decode cX1_init 16 = .ok (.new 16, 3) := by decide +kernel
theorem dX1_init_19 : decode cX1_init 19 = .ok (.dup, 1) := by decide +kernel
theorem dX1_init_20 : decode cX1_init 20 = .ok (.invokespecial 18, 3) := by decide +kernel
theorem dX1_init_23 : decode cX1_init 23 = .ok (.putfield 19, 3) := by decide +kernel
theorem dX1_init_26 : decode cX1_init 26 = .ok (.aload_n 0, 1) := by decide +kernel
theorem dX1_init_27 : decode cX1_init 27 = .ok (.iconst 1, 1) := by decide +kernel
theorem dX1_init_28 : decode cX1_init 28 = .ok (.putfield 23, 3) := by decide +kernel
theorem dX1_init_31 : decode cX1_init 31 = .ok (.return_, 1) := by decide +kernel
theorem dX1_count_0 : decode cX1_count 0 = .ok (.aload_n 0, 1) := by decide +kernel
theorem dX1_count_1 : decode cX1_count 1 = .ok (.getfield 10, 3) := by decide +kernel
theorem dX1_count_4 : decode cX1_count 4 = .ok (.invokevirtual 27, 3) := by decide +kernel
theorem dX1_count_7 : decode cX1_count 7 = .ok (.ireturn, 1) := by decide +kernel
theorem dX1_knows_0 : decode cX1_knows 0 = .ok (.iload_n 1, 1) := by decide +kernel
theorem dX1_knows_1 : decode cX1_knows 1 = .ok (.iconst 1, 1) := by decide +kernel
theorem dX1_knows_2 : decode cX1_knows 2 = .ok (.if_icmp .lt 18, 3) := by decide +kernel
theorem dX1_knows_5 : decode cX1_knows 5 = .ok (.iload_n 1, 1) := by decide +kernel
theorem dX1_knows_6 : decode cX1_knows 6 = .ok (.aload_n 0, 1) := by decide +kernel
theorem dX1_knows_7 : decode cX1_knows 7 = .ok (.getfield 10, 3) := by decide +kernel
theorem dX1_knows_10 : decode cX1_knows 10 = .ok (.invokevirtual 27, 3) := by decide +kernel
theorem dX1_knows_13 : decode cX1_knows 13 = .ok (.if_icmp .gt 7, 3) := by decide +kernel
theorem dX1_knows_16 : decode cX1_knows 16 = .ok (.iconst 1, 1) := by decide +kernel
theorem dX1_knows_17 : decode cX1_knows 17 = .ok (.goto 4, 3) := by decide +kernel
theorem dX1_knows_20 : decode cX1_knows 20 = .ok (.iconst 0, 1) := by decide +kernel
theorem dX1_knows_21 : decode cX1_knows 21 = .ok (.ireturn, 1) := by decide +kernel
theorem dX1_knowsNumberOf_0 : decode cX1_knowsNumberOf 0 = .ok (.iconst 0, 1) := by decide +kernel
theorem dX1_knowsNumberOf_1 : decode cX1_knowsNumberOf 1 = .ok (.istore_n 2, 1) := by decide +kernel
theorem dX1_knowsNumberOf_2 : decode cX1_knowsNumberOf 2 = .ok (.iload_n 2, 1) := by decide +kernel
theorem dX1_knowsNumberOf_3 : decode cX1_knowsNumberOf 3 = .ok (.aload_n 0, 1) := by decide +kernel
theorem dX1_knowsNumberOf_4 : decode cX1_knowsNumberOf 4 = .ok (.getfield 10, 3) := by decide +kernel
theorem dX1_knowsNumberOf_7 : decode cX1_knowsNumberOf 7 = .ok (.invokevirtual 27, 3) := by decide +kernel
theorem dX1_knowsNumberOf_10 : decode cX1_knowsNumberOf 10 = .ok (.if_icmp .ge 29, 3) := by decide +kernel
theorem dX1_knowsNumberOf_13 : decode cX1_knowsNumberOf 13 = .ok (.aload_n 0, 1) := by decide +kernel
theorem dX1_knowsNumberOf_14 : decode cX1_knowsNumberOf 14 = .ok (.getfield 10, 3) := by decide +kernel
theorem dX1_knowsNumberOf_17 : decode cX1_knowsNumberOf 17 = .ok (.iload_n 2, 1) := by decide +kernel
theorem dX1_knowsNumberOf_18 : decode cX1_knowsNumberOf 18 = .ok (.invokevirtual 31, 3) := by decide +kernel
theorem dX1_knowsNumberOf_21 : decode cX1_knowsNumberOf 21 = .ok (.checkcast 35, 3) := by decide +kernel
theorem dX1_knowsNumberOf_24 : decode cX1_knowsNumberOf 24 = .ok (.aload_n 1, 1) := by decide +kernel
theorem dX1_knowsNumberOf_25 : decode cX1_knowsNumberOf 25 = .ok (.invokevirtual 37, 3) := by decide +kernel
theorem dX1_knowsNumberOf_28 : decode cX1_knowsNumberOf 28 = .ok (.ifCond .eq 5, 3) := by decide +kernel
theorem dX1_knowsNumberOf_31 : decode cX1_knowsNumberOf 31 = .ok (.iconst 1, 1) := by decide +kernel
theorem dX1_knowsNumberOf_32 : decode cX1_knowsNumberOf 32 = .ok (.ireturn, 1) := by decide +kernel
theorem dX1_knowsNumberOf_33 : decode cX1_knowsNumberOf 33 = .ok (.iinc 2 1, 3) := by decide +kernel
theorem dX1_knowsNumberOf_36 : decode cX1_knowsNumberOf 36 = .ok (.goto (-34), 3) := by decide +kernel
theorem dX1_knowsNumberOf_39 : decode cX1_knowsNumberOf 39 = .ok (.iconst 0, 1) := by decide +kernel
theorem dX1_knowsNumberOf_40 : decode cX1_knowsNumberOf 40 = .ok (.ireturn, 1) := by decide +kernel
theorem dX1_bring_0 : decode cX1_bring 0 = .ok (.aload_n 1, 1) := by decide +kernel
theorem dX1_bring_1 : decode cX1_bring 1 = .ok (.aload_n 0, 1) := by decide +kernel
theorem dX1_bring_2 : decode cX1_bring 2 = .ok (.getfield 23, 3) := by decide +kernel
theorem dX1_bring_5 : decode cX1_bring 5 = .ok (.invokevirtual 41, 3) := by decide +kernel
theorem dX1_bring_8 : decode cX1_bring 8 = .ok (.aload_n 0, 1) := by decide +kernel
theorem dX1_bring_9 : decode cX1_bring 9 = .ok (.getfield 10, 3) := by decide +kernel
theorem dX1_bring_12 : decode cX1_bring 12 = .ok (.aload_n 1, 1) := by decide +kernel
theorem dX1_bring_13 : decode cX1_bring 13 = .ok (.invokevirtual 45, 3) := by decide +kernel
theorem dX1_bring_16 : decode cX1_bring 16 = .ok (.pop, 1) := by decide +kernel
theorem dX1_bring_17 : decode cX1_bring 17 = .ok (.aload_n 0, 1) := by decide +kernel
theorem dX1_bring_18 : decode cX1_bring 18 = .ok (.getfield 10, 3) := by decide +kernel
theorem dX1_bring_21 : decode cX1_bring 21 = .ok (.invokevirtual 27, 3) := by decide +kernel
theorem dX1_bring_24 : decode cX1_bring 24 = .ok (.ireturn, 1) := by decide +kernel
theorem dX1_move_0 : decode cX1_move 0 = .ok (.aload_n 0, 1) := by decide +kernel
theorem dX1_move_1 : decode cX1_move 1 = .ok (.getfield 10, 3) := by decide +kernel
theorem dX1_move_4 : decode cX1_move 4 = .ok (.iload_n 1, 1) := by decide +kernel
theorem dX1_move_5 : decode cX1_move 5 = .ok (.iconst 1, 1) := by decide +kernel
theorem dX1_move_6 : decode cX1_move 6 = .ok (.isub, 1) := by decide +kernel
theorem dX1_move_7 : decode cX1_move 7 = .ok (.invokevirtual 31, 3) := by decide +kernel
theorem dX1_move_10 : decode cX1_move 10 = .ok (.checkcast 35, 3) := by decide +kernel
theorem dX1_move_13 : decode cX1_move 13 = .ok (.iload_n 2, 1) := by decide +kernel
theorem dX1_move_14 : decode cX1_move 14 = .ok (.aload_n 0, 1) := by decide +kernel
theorem dX1_move_15 : decode cX1_move 15 = .ok (.getfield 23, 3) := by decide +kernel
theorem dX1_move_18 : decode cX1_move 18 = .ok (.invokevirtual 49, 3) := by decide +kernel
theorem dX1_move_21 : decode cX1_move 21 = .ok (.ifCond .eq 7, 3) := by decide +kernel
theorem dX1_move_24 : decode cX1_move 24 = .ok (.iconst 1, 1) := by decide +kernel
theorem dX1_move_25 : decode cX1_move 25 = .ok (.goto 4, 3) := by decide +kernel
theorem dX1_move_28 : decode cX1_move 28 = .ok (.iconst 0, 1) := by decide +kernel
theorem dX1_move_29 : decode cX1_move 29 = .ok (.ireturn, 1) := by decide +kernel
theorem dX1_turn_0 : decode cX1_turn 0 = .ok (.aload_n 0, 1) := by decide +kernel
theorem dX1_turn_1 : decode cX1_turn 1 = .ok (.getfield 23, 3) := by decide +kernel
theorem dX1_turn_4 : decode cX1_turn 4 = .ok (.iload_n 1, 1) := by decide +kernel
theorem dX1_turn_5 : decode cX1_turn 5 = .ok (.if_icmp .ne 5, 3) := by decide +kernel
theorem dX1_turn_8 : decode cX1_turn 8 = .ok (.iconst 0, 1) := by decide +kernel
theorem dX1_turn_9 : decode cX1_turn 9 = .ok (.ireturn, 1) := by decide +kernel
theorem dX1_turn_10 : decode cX1_turn 10 = .ok (.aload_n 0, 1) := by decide +kernel
theorem dX1_turn_11 : decode cX1_turn 11 = .ok (.iload_n 1, 1) := by decide +kernel
theorem dX1_turn_12 : decode cX1_turn 12 = .ok (.putfield 23, 3) := by decide +kernel
theorem dX1_turn_15 : decode cX1_turn 15 = .ok (.iconst 0, 1) := by decide +kernel
theorem dX1_turn_16 : decode cX1_turn 16 = .ok (.istore_n 2, 1) := by decide +kernel
theorem dX1_turn_17 : decode cX1_turn 17 = .ok (.iload_n 2, 1) := by decide +kernel
theorem dX1_turn_18 : decode cX1_turn 18 = .ok (.aload_n 0, 1) := by decide +kernel
theorem dX1_turn_19 : decode cX1_turn 19 = .ok (.getfield 10, 3) := by decide +kernel
theorem dX1_turn_22 : decode cX1_turn 22 = .ok (.invokevirtual 27, 3) := by decide +kernel
theorem dX1_turn_25 : decode cX1_turn 25 = .ok (.if_icmp .ge 27, 3) := by decide +kernel
theorem dX1_turn_28 : decode cX1_turn 28 = .ok (.aload_n 0, 1) := by decide +kernel
theorem dX1_turn_29 : decode cX1_turn 29 = .ok (.getfield 10, 3) := by decide +kernel
theorem dX1_turn_32 : decode cX1_turn 32 = .ok (.iload_n 2, 1) := by decide +kernel
theorem dX1_turn_33 : decode cX1_turn 33 = .ok (.invokevirtual 31, 3) := by decide +kernel
theorem dX1_turn_36 : decode cX1_turn 36 = .ok (.checkcast 35, 3) := by decide +kernel
theorem dX1_turn_39 : decode cX1_turn 39 = .ok (.aload_n 0, 1) := by decide +kernel
theorem dX1_turn_40 : decode cX1_turn 40 = .ok (.getfield 23, 3) := by decide +kernel
theorem dX1_turn_43 : decode cX1_turn 43 = .ok (.invokevirtual 41, 3) := by decide +kernel
theorem dX1_turn_46 : decode cX1_turn 46 = .ok (.iinc 2 1, 3) := by decide +kernel
theorem dX1_turn_49 : decode cX1_turn 49 = .ok (.goto (-32), 3) := by decide +kernel
theorem dX1_turn_52 : decode cX1_turn 52 = .ok (.iconst 1, 1) := by decide +kernel
theorem dX1_turn_53 : decode cX1_turn 53 = .ok (.ireturn, 1) := by decide +kernel
theorem dX1_stateOf_0 : decode cX1_stateOf 0 = .ok (.aload_n 0, 1) := by decide +kernel
theorem dX1_stateOf_1 : decode cX1_stateOf 1 = .ok (.getfield 10, 3) := by decide +kernel
theorem dX1_stateOf_4 : decode cX1_stateOf 4 = .ok (.iload_n 1, 1) := by decide +kernel
theorem dX1_stateOf_5 : decode cX1_stateOf 5 = .ok (.iconst 1, 1) := by decide +kernel
theorem dX1_stateOf_6 : decode cX1_stateOf 6 = .ok (.isub, 1) := by decide +kernel
theorem dX1_stateOf_7 : decode cX1_stateOf 7 = .ok (.invokevirtual 31, 3) := by decide +kernel
theorem dX1_stateOf_10 : decode cX1_stateOf 10 = .ok (.checkcast 35, 3) := by decide +kernel
theorem dX1_stateOf_13 : decode cX1_stateOf 13 = .ok (.invokevirtual 53, 3) := by decide +kernel
theorem dX1_stateOf_16 : decode cX1_stateOf 16 = .ok (.ireturn, 1) := by decide +kernel
theorem dX1_send_0 : decode cX1_send 0 = .ok (.aload_n 0, 1) := by decide +kernel
theorem dX1_send_1 : decode cX1_send 1 = .ok (.dup, 1) := by decide +kernel
theorem dX1_send_2 : decode cX1_send 2 = .ok (.getfield 56, 3) := by decide +kernel
theorem dX1_send_5 : decode cX1_send 5 = .ok (.iconst 1, 1) := by decide +kernel
theorem dX1_send_6 : decode cX1_send 6 = .ok (.iadd, 1) := by decide +kernel
theorem dX1_send_7 : decode cX1_send 7 = .ok (.putfield 56, 3) := by decide +kernel
theorem dX1_send_10 : decode cX1_send 10 = .ok (.aload_n 2, 1) := by decide +kernel
theorem dX1_send_11 : decode cX1_send 11 = .ok (.invokevirtual 60, 3) := by decide +kernel
theorem dX1_send_14 : decode cX1_send 14 = .ok (.aload_n 0, 1) := by decide +kernel
theorem dX1_send_15 : decode cX1_send 15 = .ok (.getfield 19, 3) := by decide +kernel
theorem dX1_send_18 : decode cX1_send 18 = .ok (.aload_n 1, 1) := by decide +kernel
theorem dX1_send_19 : decode cX1_send 19 = .ok (.invokevirtual 65, 3) := by decide +kernel
theorem dX1_send_22 : decode cX1_send 22 = .ok (.iconst 0, 1) := by decide +kernel
theorem dX1_send_23 : decode cX1_send 23 = .ok (.istore_n 3, 1) := by decide +kernel
theorem dX1_send_24 : decode cX1_send 24 = .ok (.iload_n 3, 1) := by decide +kernel
theorem dX1_send_25 : decode cX1_send 25 = .ok (.aload_n 0, 1) := by decide +kernel
theorem dX1_send_26 : decode cX1_send 26 = .ok (.getfield 10, 3) := by decide +kernel
theorem dX1_send_29 : decode cX1_send 29 = .ok (.invokevirtual 27, 3) := by decide +kernel
theorem dX1_send_32 : decode cX1_send 32 = .ok (.if_icmp .ge 41, 3) := by decide +kernel
theorem dX1_send_35 : decode cX1_send 35 = .ok (.aload_n 0, 1) := by decide +kernel
theorem dX1_send_36 : decode cX1_send 36 = .ok (.getfield 10, 3) := by decide +kernel
theorem dX1_send_39 : decode cX1_send 39 = .ok (.iload_n 3, 1) := by decide +kernel
theorem dX1_send_40 : decode cX1_send 40 = .ok (.invokevirtual 31, 3) := by decide +kernel
theorem dX1_send_43 : decode cX1_send 43 = .ok (.checkcast 35, 3) := by decide +kernel
theorem dX1_send_46 : decode cX1_send 46 = .ok (.astore 4, 2) := by decide +kernel
theorem dX1_send_48 : decode cX1_send 48 = .ok (.aload 4, 2) := by decide +kernel
theorem dX1_send_50 : decode cX1_send 50 = .ok (.aload 4, 2) := by decide +kernel
theorem dX1_send_52 : decode cX1_send 52 = .ok (.aload_n 0, 1) := by decide +kernel
theorem dX1_send_53 : decode cX1_send 53 = .ok (.getfield 19, 3) := by decide +kernel
theorem dX1_send_56 : decode cX1_send 56 = .ok (.invokevirtual 69, 3) := by decide +kernel
theorem dX1_send_59 : decode cX1_send 59 = .ok (.aload_n 0, 1) := by decide +kernel
theorem dX1_send_60 : decode cX1_send 60 = .ok (.getfield 19, 3) := by decide +kernel
theorem dX1_send_63 : decode cX1_send 63 = .ok (.aload_n 2, 1) := by decide +kernel
theorem dX1_send_64 : decode cX1_send 64 = .ok (.invokevirtual 73, 3) := by decide +kernel
theorem dX1_send_67 : decode cX1_send 67 = .ok (.iinc 3 1, 3) := by decide +kernel
theorem dX1_send_70 : decode cX1_send 70 = .ok (.goto (-46), 3) := by decide +kernel
theorem dX1_send_73 : decode cX1_send 73 = .ok (.aload_n 2, 1) := by decide +kernel
theorem dX1_send_74 : decode cX1_send 74 = .ok (.getfield 77, 3) := by decide +kernel
theorem dX1_send_77 : decode cX1_send 77 = .ok (.ireturn, 1) := by decide +kernel
theorem dX2_init_0 : decode cX2_init 0 = .ok (.aload_n 0, 1) := by decide +kernel
theorem dX2_init_1 : decode cX2_init 1 = .ok (.invokespecial 3, 3) := by decide +kernel
theorem dX2_init_4 : decode cX2_init 4 = .ok (.return_, 1) := by decide +kernel
theorem dX2_clear_0 : decode cX2_clear 0 = .ok (.aload_n 0, 1) := by decide +kernel
theorem dX2_clear_1 : decode cX2_clear 1 = .ok (.lconst 0, 1) := by decide +kernel
theorem dX2_clear_2 : decode cX2_clear 2 = .ok (.putfield 9, 3) := by decide +kernel
theorem dX2_clear_5 : decode cX2_clear 5 = .ok (.aload_n 0, 1) := by decide +kernel
theorem dX2_clear_6 : decode cX2_clear 6 = .ok (.lconst 0, 1) := by decide +kernel
theorem dX2_clear_7 : decode cX2_clear 7 = .ok (.putfield 15, 3) := by decide +kernel
theorem dX2_clear_10 : decode cX2_clear 10 = .ok (.aload_n 0, 1) := by decide +kernel
theorem dX2_clear_11 : decode cX2_clear 11 = .ok (.iconst 0, 1) := by decide +kernel
theorem dX2_clear_12 : decode cX2_clear 12 = .ok (.putfield 18, 3) := by decide +kernel
theorem dX2_clear_15 : decode cX2_clear 15 = .ok (.return_, 1) := by decide +kernel
theorem dX2_lay_0 : decode cX2_lay 0 = .ok (.lconst 1, 1) := by decide +kernel
theorem dX2_lay_1 : decode cX2_lay 1 = .ok (.iload_n 3, 1) := by decide +kernel
theorem dX2_lay_2 : decode cX2_lay 2 = .ok (.lshl, 1) := by decide +kernel
theorem dX2_lay_3 : decode cX2_lay 3 = .ok (.lconst 1, 1) := by decide +kernel
theorem dX2_lay_4 : decode cX2_lay 4 = .ok (.lsub, 1) := by decide +kernel
theorem dX2_lay_5 : decode cX2_lay 5 = .ok (.lstore 4, 2) := by decide +kernel
theorem dX2_lay_7 : decode cX2_lay 7 = .ok (.aload_n 0, 1) := by decide +kernel
theorem dX2_lay_8 : decode cX2_lay 8 = .ok (.dup, 1) := by decide +kernel
theorem dX2_lay_9 : decode cX2_lay 9 = .ok (.getfield 9, 3) := by decide +kernel
theorem dX2_lay_12 : decode cX2_lay 12 = .ok (.lload_n 1, 1) := by decide +kernel
theorem dX2_lay_13 : decode cX2_lay 13 = .ok (.lload 4, 2) := by decide +kernel
theorem dX2_lay_15 : decode cX2_lay 15 = .ok (.land, 1) := by decide +kernel
theorem dX2_lay_16 : decode cX2_lay 16 = .ok (.lor, 1) := by decide +kernel
theorem dX2_lay_17 : decode cX2_lay 17 = .ok (.putfield 9, 3) := by decide +kernel
theorem dX2_lay_20 : decode cX2_lay 20 = .ok (.aload_n 0, 1) := by decide +kernel
theorem dX2_lay_21 : decode cX2_lay 21 = .ok (.dup, 1) := by decide +kernel
theorem dX2_lay_22 : decode cX2_lay 22 = .ok (.getfield 15, 3) := by decide +kernel
theorem dX2_lay_25 : decode cX2_lay 25 = .ok (.lload_n 1, 1) := by decide +kernel
theorem dX2_lay_26 : decode cX2_lay 26 = .ok (.ldc2_w 22, 3) := by decide +kernel
theorem dX2_lay_29 : decode cX2_lay 29 = .ok (.lxor, 1) := by decide +kernel
theorem dX2_lay_30 : decode cX2_lay 30 = .ok (.lload 4, 2) := by decide +kernel
theorem dX2_lay_32 : decode cX2_lay 32 = .ok (.land, 1) := by decide +kernel
theorem dX2_lay_33 : decode cX2_lay 33 = .ok (.lor, 1) := by decide +kernel
theorem dX2_lay_34 : decode cX2_lay 34 = .ok (.putfield 15, 3) := by decide +kernel
theorem dX2_lay_37 : decode cX2_lay 37 = .ok (.aload_n 0, 1) := by decide +kernel
theorem dX2_lay_38 : decode cX2_lay 38 = .ok (.aload_n 0, 1) := by decide +kernel
theorem dX2_lay_39 : decode cX2_lay 39 = .ok (.getfield 18, 3) := by decide +kernel
theorem dX2_lay_42 : decode cX2_lay 42 = .ok (.iload_n 3, 1) := by decide +kernel
theorem dX2_lay_43 : decode cX2_lay 43 = .ok (.invokestatic 24, 3) := by decide +kernel
theorem dX2_lay_46 : decode cX2_lay 46 = .ok (.putfield 18, 3) := by decide +kernel
theorem dX2_lay_49 : decode cX2_lay 49 = .ok (.return_, 1) := by decide +kernel
theorem dX2_bitAt_0 : decode cX2_bitAt 0 = .ok (.iload_n 1, 1) := by decide +kernel
theorem dX2_bitAt_1 : decode cX2_bitAt 1 = .ok (.ifCond .lt 11, 3) := by decide +kernel
theorem dX2_bitAt_4 : decode cX2_bitAt 4 = .ok (.iload_n 1, 1) := by decide +kernel
theorem dX2_bitAt_5 : decode cX2_bitAt 5 = .ok (.aload_n 0, 1) := by decide +kernel
theorem dX2_bitAt_6 : decode cX2_bitAt 6 = .ok (.getfield 18, 3) := by decide +kernel
theorem dX2_bitAt_9 : decode cX2_bitAt 9 = .ok (.if_icmp .lt 5, 3) := by decide +kernel
theorem dX2_bitAt_12 : decode cX2_bitAt 12 = .ok (.iconst (-1), 1) := by decide +kernel
theorem dX2_bitAt_13 : decode cX2_bitAt 13 = .ok (.ireturn, 1) := by decide +kernel
theorem dX2_bitAt_14 : decode cX2_bitAt 14 = .ok (.aload_n 0, 1) := by decide +kernel
theorem dX2_bitAt_15 : decode cX2_bitAt 15 = .ok (.getfield 9, 3) := by decide +kernel
theorem dX2_bitAt_18 : decode cX2_bitAt 18 = .ok (.iload_n 1, 1) := by decide +kernel
theorem dX2_bitAt_19 : decode cX2_bitAt 19 = .ok (.lushr, 1) := by decide +kernel
theorem dX2_bitAt_20 : decode cX2_bitAt 20 = .ok (.lconst 1, 1) := by decide +kernel
theorem dX2_bitAt_21 : decode cX2_bitAt 21 = .ok (.land, 1) := by decide +kernel
theorem dX2_bitAt_22 : decode cX2_bitAt 22 = .ok (.lconst 1, 1) := by decide +kernel
theorem dX2_bitAt_23 : decode cX2_bitAt 23 = .ok (.lcmp, 1) := by decide +kernel
theorem dX2_bitAt_24 : decode cX2_bitAt 24 = .ok (.ifCond .ne 7, 3) := by decide +kernel
theorem dX2_bitAt_27 : decode cX2_bitAt 27 = .ok (.iconst 1, 1) := by decide +kernel
theorem dX2_bitAt_28 : decode cX2_bitAt 28 = .ok (.goto 4, 3) := by decide +kernel
theorem dX2_bitAt_31 : decode cX2_bitAt 31 = .ok (.iconst 0, 1) := by decide +kernel
theorem dX2_bitAt_32 : decode cX2_bitAt 32 = .ok (.istore_n 2, 1) := by decide +kernel
theorem dX2_bitAt_33 : decode cX2_bitAt 33 = .ok (.aload_n 0, 1) := by decide +kernel
theorem dX2_bitAt_34 : decode cX2_bitAt 34 = .ok (.getfield 15, 3) := by decide +kernel
theorem dX2_bitAt_37 : decode cX2_bitAt 37 = .ok (.iload_n 1, 1) := by decide +kernel
theorem dX2_bitAt_38 : decode cX2_bitAt 38 = .ok (.lushr, 1) := by decide +kernel
theorem dX2_bitAt_39 : decode cX2_bitAt 39 = .ok (.lconst 1, 1) := by decide +kernel
theorem dX2_bitAt_40 : decode cX2_bitAt 40 = .ok (.land, 1) := by decide +kernel
theorem dX2_bitAt_41 : decode cX2_bitAt 41 = .ok (.lconst 1, 1) := by decide +kernel
theorem dX2_bitAt_42 : decode cX2_bitAt 42 = .ok (.lcmp, 1) := by decide +kernel
theorem dX2_bitAt_43 : decode cX2_bitAt 43 = .ok (.ifCond .ne 7, 3) := by decide +kernel
theorem dX2_bitAt_46 : decode cX2_bitAt 46 = .ok (.iconst 1, 1) := by decide +kernel
theorem dX2_bitAt_47 : decode cX2_bitAt 47 = .ok (.goto 4, 3) := by decide +kernel
theorem dX2_bitAt_50 : decode cX2_bitAt 50 = .ok (.iconst 0, 1) := by decide +kernel
theorem dX2_bitAt_51 : decode cX2_bitAt 51 = .ok (.istore_n 3, 1) := by decide +kernel
theorem dX2_bitAt_52 : decode cX2_bitAt 52 = .ok (.iload_n 2, 1) := by decide +kernel
theorem dX2_bitAt_53 : decode cX2_bitAt 53 = .ok (.ifCond .eq 9, 3) := by decide +kernel
theorem dX2_bitAt_56 : decode cX2_bitAt 56 = .ok (.iload_n 3, 1) := by decide +kernel
theorem dX2_bitAt_57 : decode cX2_bitAt 57 = .ok (.ifCond .eq 5, 3) := by decide +kernel
theorem dX2_bitAt_60 : decode cX2_bitAt 60 = .ok (.iconst 2, 1) := by decide +kernel
theorem dX2_bitAt_61 : decode cX2_bitAt 61 = .ok (.ireturn, 1) := by decide +kernel
theorem dX2_bitAt_62 : decode cX2_bitAt 62 = .ok (.iload_n 2, 1) := by decide +kernel
theorem dX2_bitAt_63 : decode cX2_bitAt 63 = .ok (.ifCond .eq 7, 3) := by decide +kernel
theorem dX2_bitAt_66 : decode cX2_bitAt 66 = .ok (.iconst 1, 1) := by decide +kernel
theorem dX2_bitAt_67 : decode cX2_bitAt 67 = .ok (.goto 4, 3) := by decide +kernel
theorem dX2_bitAt_70 : decode cX2_bitAt 70 = .ok (.iconst 0, 1) := by decide +kernel
theorem dX2_bitAt_71 : decode cX2_bitAt 71 = .ok (.ireturn, 1) := by decide +kernel
theorem dX2_beginsWith_0 : decode cX2_beginsWith 0 = .ok (.aload_n 0, 1) := by decide +kernel
theorem dX2_beginsWith_1 : decode cX2_beginsWith 1 = .ok (.getfield 9, 3) := by decide +kernel
theorem dX2_beginsWith_4 : decode cX2_beginsWith 4 = .ok (.ldc2_w 30, 3) := by decide +kernel
theorem dX2_beginsWith_7 : decode cX2_beginsWith 7 = .ok (.land, 1) := by decide +kernel
theorem dX2_beginsWith_8 : decode cX2_beginsWith 8 = .ok (.iload_n 1, 1) := by decide +kernel
theorem dX2_beginsWith_9 : decode cX2_beginsWith 9 = .ok (.i2l, 1) := by decide +kernel
theorem dX2_beginsWith_10 : decode cX2_beginsWith 10 = .ok (.lcmp, 1) := by decide +kernel
theorem dX2_beginsWith_11 : decode cX2_beginsWith 11 = .ok (.ifCond .ne 25, 3) := by decide +kernel
theorem dX2_beginsWith_14 : decode cX2_beginsWith 14 = .ok (.aload_n 0, 1) := by decide +kernel
theorem dX2_beginsWith_15 : decode cX2_beginsWith 15 = .ok (.getfield 15, 3) := by decide +kernel
theorem dX2_beginsWith_18 : decode cX2_beginsWith 18 = .ok (.ldc2_w 30, 3) := by decide +kernel
theorem dX2_beginsWith_21 : decode cX2_beginsWith 21 = .ok (.land, 1) := by decide +kernel
theorem dX2_beginsWith_22 : decode cX2_beginsWith 22 = .ok (.iload_n 1, 1) := by decide +kernel
theorem dX2_beginsWith_23 : decode cX2_beginsWith 23 = .ok (.sipush 255, 3) := by decide +kernel
theorem dX2_beginsWith_26 : decode cX2_beginsWith 26 = .ok (.ixor, 1) := by decide +kernel
theorem dX2_beginsWith_27 : decode cX2_beginsWith 27 = .ok (.i2l, 1) := by decide +kernel
theorem dX2_beginsWith_28 : decode cX2_beginsWith 28 = .ok (.lcmp, 1) := by decide +kernel
theorem dX2_beginsWith_29 : decode cX2_beginsWith 29 = .ok (.ifCond .ne 7, 3) := by decide +kernel
theorem dX2_beginsWith_32 : decode cX2_beginsWith 32 = .ok (.iconst 1, 1) := by decide +kernel
theorem dX2_beginsWith_33 : decode cX2_beginsWith 33 = .ok (.goto 4, 3) := by decide +kernel
theorem dX2_beginsWith_36 : decode cX2_beginsWith 36 = .ok (.iconst 0, 1) := by decide +kernel
theorem dX2_beginsWith_37 : decode cX2_beginsWith 37 = .ok (.ireturn, 1) := by decide +kernel
theorem dX3_octetsOf_0 : decode cX3_octetsOf 0 = .ok (.lconst 0, 1) := by decide +kernel
theorem dX3_octetsOf_1 : decode cX3_octetsOf 1 = .ok (.lstore_n 3, 1) := by decide +kernel
theorem dX3_octetsOf_2 : decode cX3_octetsOf 2 = .ok (.iconst 0, 1) := by decide +kernel
theorem dX3_octetsOf_3 : decode cX3_octetsOf 3 = .ok (.istore 5, 2) := by decide +kernel
theorem dX3_octetsOf_5 : decode cX3_octetsOf 5 = .ok (.iload 5, 2) := by decide +kernel
theorem dX3_octetsOf_7 : decode cX3_octetsOf 7 = .ok (.iload_n 2, 1) := by decide +kernel
theorem dX3_octetsOf_8 : decode cX3_octetsOf 8 = .ok (.if_icmp .ge 51, 3) := by decide +kernel
theorem dX3_octetsOf_11 : decode cX3_octetsOf 11 = .ok (.lload_n 0, 1) := by decide +kernel
theorem dX3_octetsOf_12 : decode cX3_octetsOf 12 = .ok (.bipush 8, 2) := by decide +kernel
theorem dX3_octetsOf_14 : decode cX3_octetsOf 14 = .ok (.iload 5, 2) := by decide +kernel
theorem dX3_octetsOf_16 : decode cX3_octetsOf 16 = .ok (.imul, 1) := by decide +kernel
theorem dX3_octetsOf_17 : decode cX3_octetsOf 17 = .ok (.lushr, 1) := by decide +kernel
theorem dX3_octetsOf_18 : decode cX3_octetsOf 18 = .ok (.ldc2_w 9, 3) := by decide +kernel
theorem dX3_octetsOf_21 : decode cX3_octetsOf 21 = .ok (.land, 1) := by decide +kernel
theorem dX3_octetsOf_22 : decode cX3_octetsOf 22 = .ok (.lstore 6, 2) := by decide +kernel
theorem dX3_octetsOf_24 : decode cX3_octetsOf 24 = .ok (.iconst 1, 1) := by decide +kernel
theorem dX3_octetsOf_25 : decode cX3_octetsOf 25 = .ok (.lload 6, 2) := by decide +kernel
theorem dX3_octetsOf_27 : decode cX3_octetsOf 27 = .ok (.invokestatic 11, 3) := by decide +kernel
theorem dX3_octetsOf_30 : decode cX3_octetsOf 30 = .ok (.iconst 2, 1) := by decide +kernel
theorem dX3_octetsOf_31 : decode cX3_octetsOf 31 = .ok (.irem, 1) := by decide +kernel
theorem dX3_octetsOf_32 : decode cX3_octetsOf 32 = .ok (.isub, 1) := by decide +kernel
theorem dX3_octetsOf_33 : decode cX3_octetsOf 33 = .ok (.i2l, 1) := by decide +kernel
theorem dX3_octetsOf_34 : decode cX3_octetsOf 34 = .ok (.lstore 8, 2) := by decide +kernel
theorem dX3_octetsOf_36 : decode cX3_octetsOf 36 = .ok (.lload_n 3, 1) := by decide +kernel
theorem dX3_octetsOf_37 : decode cX3_octetsOf 37 = .ok (.lload 6, 2) := by decide +kernel
theorem dX3_octetsOf_39 : decode cX3_octetsOf 39 = .ok (.lload 8, 2) := by decide +kernel
theorem dX3_octetsOf_41 : decode cX3_octetsOf 41 = .ok (.bipush 8, 2) := by decide +kernel
theorem dX3_octetsOf_43 : decode cX3_octetsOf 43 = .ok (.lshl, 1) := by decide +kernel
theorem dX3_octetsOf_44 : decode cX3_octetsOf 44 = .ok (.lor, 1) := by decide +kernel
theorem dX3_octetsOf_45 : decode cX3_octetsOf 45 = .ok (.bipush 9, 2) := by decide +kernel
theorem dX3_octetsOf_47 : decode cX3_octetsOf 47 = .ok (.iload 5, 2) := by decide +kernel
theorem dX3_octetsOf_49 : decode cX3_octetsOf 49 = .ok (.imul, 1) := by decide +kernel
theorem dX3_octetsOf_50 : decode cX3_octetsOf 50 = .ok (.lshl, 1) := by decide +kernel
theorem dX3_octetsOf_51 : decode cX3_octetsOf 51 = .ok (.lor, 1) := by decide +kernel
theorem dX3_octetsOf_52 : decode cX3_octetsOf 52 = .ok (.lstore_n 3, 1) := by decide +kernel
theorem dX3_octetsOf_53 : decode cX3_octetsOf 53 = .ok (.iinc 5 1, 3) := by decide +kernel
theorem dX3_octetsOf_56 : decode cX3_octetsOf 56 = .ok (.goto (-51), 3) := by decide +kernel
theorem dX3_octetsOf_59 : decode cX3_octetsOf 59 = .ok (.lload_n 3, 1) := by decide +kernel
theorem dX3_octetsOf_60 : decode cX3_octetsOf 60 = .ok (.lreturn, 1) := by decide +kernel
theorem dX3_checkStep_0 : decode cX3_checkStep 0 = .ok (.iload_n 1, 1) := by decide +kernel
theorem dX3_checkStep_1 : decode cX3_checkStep 1 = .ok (.iload_n 0, 1) := by decide +kernel
theorem dX3_checkStep_2 : decode cX3_checkStep 2 = .ok (.sipush 255, 3) := by decide +kernel
theorem dX3_checkStep_5 : decode cX3_checkStep 5 = .ok (.iand, 1) := by decide +kernel
theorem dX3_checkStep_6 : decode cX3_checkStep 6 = .ok (.ixor, 1) := by decide +kernel
theorem dX3_checkStep_7 : decode cX3_checkStep 7 = .ok (.istore_n 2, 1) := by decide +kernel
theorem dX3_checkStep_8 : decode cX3_checkStep 8 = .ok (.iload_n 2, 1) := by decide +kernel
theorem dX3_checkStep_9 : decode cX3_checkStep 9 = .ok (.iload_n 2, 1) := by decide +kernel
theorem dX3_checkStep_10 : decode cX3_checkStep 10 = .ok (.iconst 4, 1) := by decide +kernel
theorem dX3_checkStep_11 : decode cX3_checkStep 11 = .ok (.ishl, 1) := by decide +kernel
theorem dX3_checkStep_12 : decode cX3_checkStep 12 = .ok (.ixor, 1) := by decide +kernel
theorem dX3_checkStep_13 : decode cX3_checkStep 13 = .ok (.sipush 255, 3) := by decide +kernel
theorem dX3_checkStep_16 : decode cX3_checkStep 16 = .ok (.iand, 1) := by decide +kernel
theorem dX3_checkStep_17 : decode cX3_checkStep 17 = .ok (.istore_n 2, 1) := by decide +kernel
theorem dX3_checkStep_18 : decode cX3_checkStep 18 = .ok (.iload_n 0, 1) := by decide +kernel
theorem dX3_checkStep_19 : decode cX3_checkStep 19 = .ok (.bipush 8, 2) := by decide +kernel
theorem dX3_checkStep_21 : decode cX3_checkStep 21 = .ok (.iushr, 1) := by decide +kernel
theorem dX3_checkStep_22 : decode cX3_checkStep 22 = .ok (.iload_n 2, 1) := by decide +kernel
theorem dX3_checkStep_23 : decode cX3_checkStep 23 = .ok (.bipush 8, 2) := by decide +kernel
theorem dX3_checkStep_25 : decode cX3_checkStep 25 = .ok (.ishl, 1) := by decide +kernel
theorem dX3_checkStep_26 : decode cX3_checkStep 26 = .ok (.ixor, 1) := by decide +kernel
theorem dX3_checkStep_27 : decode cX3_checkStep 27 = .ok (.iload_n 2, 1) := by decide +kernel
theorem dX3_checkStep_28 : decode cX3_checkStep 28 = .ok (.iconst 3, 1) := by decide +kernel
theorem dX3_checkStep_29 : decode cX3_checkStep 29 = .ok (.ishl, 1) := by decide +kernel
theorem dX3_checkStep_30 : decode cX3_checkStep 30 = .ok (.ixor, 1) := by decide +kernel
theorem dX3_checkStep_31 : decode cX3_checkStep 31 = .ok (.iload_n 2, 1) := by decide +kernel
theorem dX3_checkStep_32 : decode cX3_checkStep 32 = .ok (.iconst 4, 1) := by decide +kernel
theorem dX3_checkStep_33 : decode cX3_checkStep 33 = .ok (.iushr, 1) := by decide +kernel
theorem dX3_checkStep_34 : decode cX3_checkStep 34 = .ok (.ixor, 1) := by decide +kernel
theorem dX3_checkStep_35 : decode cX3_checkStep 35 = .ok (.ldc 17, 2) := by decide +kernel
theorem dX3_checkStep_37 : decode cX3_checkStep 37 = .ok (.iand, 1) := by decide +kernel
theorem dX3_checkStep_38 : decode cX3_checkStep 38 = .ok (.ireturn, 1) := by decide +kernel
theorem dX3_checkedOctetsOf_0 : decode cX3_checkedOctetsOf 0 = .ok (.sipush 25443, 3) := by decide +kernel
theorem dX3_checkedOctetsOf_3 : decode cX3_checkedOctetsOf 3 = .ok (.istore_n 3, 1) := by decide +kernel
theorem dX3_checkedOctetsOf_4 : decode cX3_checkedOctetsOf 4 = .ok (.iconst 0, 1) := by decide +kernel
theorem dX3_checkedOctetsOf_5 : decode cX3_checkedOctetsOf 5 = .ok (.istore 4, 2) := by decide +kernel
theorem dX3_checkedOctetsOf_7 : decode cX3_checkedOctetsOf 7 = .ok (.iload 4, 2) := by decide +kernel
theorem dX3_checkedOctetsOf_9 : decode cX3_checkedOctetsOf 9 = .ok (.iload_n 2, 1) := by decide +kernel
theorem dX3_checkedOctetsOf_10 : decode cX3_checkedOctetsOf 10 = .ok (.if_icmp .ge 26, 3) := by decide +kernel
theorem dX3_checkedOctetsOf_13 : decode cX3_checkedOctetsOf 13 = .ok (.iload_n 3, 1) := by decide +kernel
theorem dX3_checkedOctetsOf_14 : decode cX3_checkedOctetsOf 14 = .ok (.lload_n 0, 1) := by decide +kernel
theorem dX3_checkedOctetsOf_15 : decode cX3_checkedOctetsOf 15 = .ok (.bipush 8, 2) := by decide +kernel
theorem dX3_checkedOctetsOf_17 : decode cX3_checkedOctetsOf 17 = .ok (.iload 4, 2) := by decide +kernel
theorem dX3_checkedOctetsOf_19 : decode cX3_checkedOctetsOf 19 = .ok (.imul, 1) := by decide +kernel
theorem dX3_checkedOctetsOf_20 : decode cX3_checkedOctetsOf 20 = .ok (.lushr, 1) := by decide +kernel
theorem dX3_checkedOctetsOf_21 : decode cX3_checkedOctetsOf 21 = .ok (.l2i, 1) := by decide +kernel
theorem dX3_checkedOctetsOf_22 : decode cX3_checkedOctetsOf 22 = .ok (.sipush 255, 3) := by decide +kernel
theorem dX3_checkedOctetsOf_25 : decode cX3_checkedOctetsOf 25 = .ok (.iand, 1) := by decide +kernel
theorem dX3_checkedOctetsOf_26 : decode cX3_checkedOctetsOf 26 = .ok (.invokestatic 20, 3) := by decide +kernel
theorem dX3_checkedOctetsOf_29 : decode cX3_checkedOctetsOf 29 = .ok (.istore_n 3, 1) := by decide +kernel
theorem dX3_checkedOctetsOf_30 : decode cX3_checkedOctetsOf 30 = .ok (.iinc 4 1, 3) := by decide +kernel
theorem dX3_checkedOctetsOf_33 : decode cX3_checkedOctetsOf 33 = .ok (.goto (-26), 3) := by decide +kernel
theorem dX3_checkedOctetsOf_36 : decode cX3_checkedOctetsOf 36 = .ok (.lload_n 0, 1) := by decide +kernel
theorem dX3_checkedOctetsOf_37 : decode cX3_checkedOctetsOf 37 = .ok (.iload_n 3, 1) := by decide +kernel
theorem dX3_checkedOctetsOf_38 : decode cX3_checkedOctetsOf 38 = .ok (.i2l, 1) := by decide +kernel
theorem dX3_checkedOctetsOf_39 : decode cX3_checkedOctetsOf 39 = .ok (.bipush 8, 2) := by decide +kernel
theorem dX3_checkedOctetsOf_41 : decode cX3_checkedOctetsOf 41 = .ok (.iload_n 2, 1) := by decide +kernel
theorem dX3_checkedOctetsOf_42 : decode cX3_checkedOctetsOf 42 = .ok (.imul, 1) := by decide +kernel
theorem dX3_checkedOctetsOf_43 : decode cX3_checkedOctetsOf 43 = .ok (.lshl, 1) := by decide +kernel
theorem dX3_checkedOctetsOf_44 : decode cX3_checkedOctetsOf 44 = .ok (.lor, 1) := by decide +kernel
theorem dX3_checkedOctetsOf_45 : decode cX3_checkedOctetsOf 45 = .ok (.iload_n 2, 1) := by decide +kernel
theorem dX3_checkedOctetsOf_46 : decode cX3_checkedOctetsOf 46 = .ok (.iconst 2, 1) := by decide +kernel
theorem dX3_checkedOctetsOf_47 : decode cX3_checkedOctetsOf 47 = .ok (.iadd, 1) := by decide +kernel
theorem dX3_checkedOctetsOf_48 : decode cX3_checkedOctetsOf 48 = .ok (.invokestatic 24, 3) := by decide +kernel
theorem dX3_checkedOctetsOf_51 : decode cX3_checkedOctetsOf 51 = .ok (.lreturn, 1) := by decide +kernel
theorem dX4_init_0 : decode cX4_init 0 = .ok (.aload_n 0, 1) := by decide +kernel
theorem dX4_init_1 : decode cX4_init 1 = .ok (.invokespecial 3, 3) := by decide +kernel
theorem dX4_init_4 : decode cX4_init 4 = .ok (.aload_n 0, 1) := by decide +kernel
theorem dX4_init_5 : decode cX4_init 5 = .ok (.getstatic 9, 3) := by decide +kernel
theorem dX4_init_8 : decode cX4_init 8 = .ok (.putfield 15, 3) := by decide +kernel
theorem dX4_init_11 : decode cX4_init 11 = .ok (.return_, 1) := by decide +kernel
theorem dX4_read_0 : decode cX4_read 0 = .ok (.aload_n 1, 1) := by decide +kernel
theorem dX4_read_1 : decode cX4_read 1 = .ok (.getfield 20, 3) := by decide +kernel
theorem dX4_read_4 : decode cX4_read 4 = .ok (.bipush 9, 2) := by decide +kernel
theorem dX4_read_6 : decode cX4_read 6 = .ok (.idiv, 1) := by decide +kernel
theorem dX4_read_7 : decode cX4_read 7 = .ok (.istore_n 2, 1) := by decide +kernel
theorem dX4_read_8 : decode cX4_read 8 = .ok (.aload_n 1, 1) := by decide +kernel
theorem dX4_read_9 : decode cX4_read 9 = .ok (.getfield 20, 3) := by decide +kernel
theorem dX4_read_12 : decode cX4_read 12 = .ok (.bipush 9, 2) := by decide +kernel
theorem dX4_read_14 : decode cX4_read 14 = .ok (.irem, 1) := by decide +kernel
theorem dX4_read_15 : decode cX4_read 15 = .ok (.istore_n 3, 1) := by decide +kernel
theorem dX4_read_16 : decode cX4_read 16 = .ok (.aload_n 1, 1) := by decide +kernel
theorem dX4_read_17 : decode cX4_read 17 = .ok (.iconst 0, 1) := by decide +kernel
theorem dX4_read_18 : decode cX4_read 18 = .ok (.bipush 8, 2) := by decide +kernel
theorem dX4_read_20 : decode cX4_read 20 = .ok (.invokevirtual 26, 3) := by decide +kernel
theorem dX4_read_23 : decode cX4_read 23 = .ok (.istore 4, 2) := by decide +kernel
theorem dX4_read_25 : decode cX4_read 25 = .ok (.aload_n 0, 1) := by decide +kernel
theorem dX4_read_26 : decode cX4_read 26 = .ok (.aload_n 1, 1) := by decide +kernel
theorem dX4_read_27 : decode cX4_read 27 = .ok (.bipush 9, 2) := by decide +kernel
theorem dX4_read_29 : decode cX4_read 29 = .ok (.bipush 8, 2) := by decide +kernel
theorem dX4_read_31 : decode cX4_read 31 = .ok (.invokevirtual 26, 3) := by decide +kernel
theorem dX4_read_34 : decode cX4_read 34 = .ok (.putfield 30, 3) := by decide +kernel
theorem dX4_read_37 : decode cX4_read 37 = .ok (.aload_n 0, 1) := by decide +kernel
theorem dX4_read_38 : decode cX4_read 38 = .ok (.iload 4, 2) := by decide +kernel
theorem dX4_read_40 : decode cX4_read 40 = .ok (.invokestatic 33, 3) := by decide +kernel
theorem dX4_read_43 : decode cX4_read 43 = .ok (.putfield 37, 3) := by decide +kernel
theorem dX4_read_46 : decode cX4_read 46 = .ok (.aload_n 1, 1) := by decide +kernel
theorem dX4_read_47 : decode cX4_read 47 = .ok (.getfield 20, 3) := by decide +kernel
theorem dX4_read_50 : decode cX4_read 50 = .ok (.bipush 7, 2) := by decide +kernel
theorem dX4_read_52 : decode cX4_read 52 = .ok (.if_icmp .ne 15, 3) := by decide +kernel
theorem dX4_read_55 : decode cX4_read 55 = .ok (.aload_n 0, 1) := by decide +kernel
theorem dX4_read_56 : decode cX4_read 56 = .ok (.iload 4, 2) := by decide +kernel
theorem dX4_read_58 : decode cX4_read 58 = .ok (.invokestatic 40, 3) := by decide +kernel
theorem dX4_read_61 : decode cX4_read 61 = .ok (.putfield 15, 3) := by decide +kernel
theorem dX4_read_64 : decode cX4_read 64 = .ok (.goto 149, 3) := by decide +kernel
theorem dX4_read_67 : decode cX4_read 67 = .ok (.iload_n 2, 1) := by decide +kernel
theorem dX4_read_68 : decode cX4_read 68 = .ok (.iconst 2, 1) := by decide +kernel
theorem dX4_read_69 : decode cX4_read 69 = .ok (.if_icmp .lt 11, 3) := by decide +kernel
theorem dX4_read_72 : decode cX4_read 72 = .ok (.aload_n 1, 1) := by decide +kernel
theorem dX4_read_73 : decode cX4_read 73 = .ok (.iload_n 2, 1) := by decide +kernel
theorem dX4_read_74 : decode cX4_read 74 = .ok (.invokevirtual 44, 3) := by decide +kernel
theorem dX4_read_77 : decode cX4_read 77 = .ok (.ifCond .ne 13, 3) := by decide +kernel
theorem dX4_read_80 : decode cX4_read 80 = .ok (.aload_n 0, 1) := by decide +kernel
theorem dX4_read_81 : decode cX4_read 81 = .ok (.getstatic 9, 3) := by decide +kernel
theorem dX4_read_84 : decode cX4_read 84 = .ok (.putfield 15, 3) := by decide +kernel
theorem dX4_read_87 : decode cX4_read 87 = .ok (.goto 126, 3) := by decide +kernel
theorem dX4_read_90 : decode cX4_read 90 = .ok (.aload_n 0, 1) := by decide +kernel
theorem dX4_read_91 : decode cX4_read 91 = .ok (.getfield 37, 3) := by decide +kernel
theorem dX4_read_94 : decode cX4_read 94 = .ok (.ifCond .le 47, 3) := by decide +kernel
theorem dX4_read_97 : decode cX4_read 97 = .ok (.iload_n 2, 1) := by decide +kernel
theorem dX4_read_98 : decode cX4_read 98 = .ok (.bipush 6, 2) := by decide +kernel
theorem dX4_read_100 : decode cX4_read 100 = .ok (.if_icmp .gt 41, 3) := by decide +kernel
theorem dX4_read_103 : decode cX4_read 103 = .ok (.iload_n 3, 1) := by decide +kernel
theorem dX4_read_104 : decode cX4_read 104 = .ok (.bipush 7, 2) := by decide +kernel
theorem dX4_read_106 : decode cX4_read 106 = .ok (.if_icmp .gt 35, 3) := by decide +kernel
theorem dX4_read_109 : decode cX4_read 109 = .ok (.aload_n 0, 1) := by decide +kernel
theorem dX4_read_110 : decode cX4_read 110 = .ok (.getfield 30, 3) := by decide +kernel
theorem dX4_read_113 : decode cX4_read 113 = .ok (.bipush 16, 2) := by decide +kernel
theorem dX4_read_115 : decode cX4_read 115 = .ok (.iload_n 2, 1) := by decide +kernel
theorem dX4_read_116 : decode cX4_read 116 = .ok (.imul, 1) := by decide +kernel
theorem dX4_read_117 : decode cX4_read 117 = .ok (.iload_n 3, 1) := by decide +kernel
theorem dX4_read_118 : decode cX4_read 118 = .ok (.iadd, 1) := by decide +kernel
theorem dX4_read_119 : decode cX4_read 119 = .ok (.if_icmp .ne 22, 3) := by decide +kernel
theorem dX4_read_122 : decode cX4_read 122 = .ok (.aload_n 0, 1) := by decide +kernel
theorem dX4_read_123 : decode cX4_read 123 = .ok (.getstatic 48, 3) := by decide +kernel
theorem dX4_read_126 : decode cX4_read 126 = .ok (.putfield 15, 3) := by decide +kernel
theorem dX4_read_129 : decode cX4_read 129 = .ok (.aload_n 0, 1) := by decide +kernel
theorem dX4_read_130 : decode cX4_read 130 = .ok (.aload_n 1, 1) := by decide +kernel
theorem dX4_read_131 : decode cX4_read 131 = .ok (.iload_n 2, 1) := by decide +kernel
theorem dX4_read_132 : decode cX4_read 132 = .ok (.iconst 2, 1) := by decide +kernel
theorem dX4_read_133 : decode cX4_read 133 = .ok (.isub, 1) := by decide +kernel
theorem dX4_read_134 : decode cX4_read 134 = .ok (.iload_n 3, 1) := by decide +kernel
theorem dX4_read_135 : decode cX4_read 135 = .ok (.invokevirtual 51, 3) := by decide +kernel
theorem dX4_read_138 : decode cX4_read 138 = .ok (.goto 75, 3) := by decide +kernel
theorem dX4_read_141 : decode cX4_read 141 = .ok (.iload_n 3, 1) := by decide +kernel
theorem dX4_read_142 : decode cX4_read 142 = .ok (.ifCond .gt 11, 3) := by decide +kernel
theorem dX4_read_145 : decode cX4_read 145 = .ok (.aload_n 1, 1) := by decide +kernel
theorem dX4_read_146 : decode cX4_read 146 = .ok (.iload_n 2, 1) := by decide +kernel
theorem dX4_read_147 : decode cX4_read 147 = .ok (.invokevirtual 55, 3) := by decide +kernel
theorem dX4_read_150 : decode cX4_read 150 = .ok (.ifCond .eq 13, 3) := by decide +kernel
theorem dX4_read_153 : decode cX4_read 153 = .ok (.aload_n 0, 1) := by decide +kernel
theorem dX4_read_154 : decode cX4_read 154 = .ok (.getstatic 9, 3) := by decide +kernel
theorem dX4_read_157 : decode cX4_read 157 = .ok (.putfield 15, 3) := by decide +kernel
theorem dX4_read_160 : decode cX4_read 160 = .ok (.goto 53, 3) := by decide +kernel
theorem dX4_read_163 : decode cX4_read 163 = .ok (.aload_n 0, 1) := by decide +kernel
theorem dX4_read_164 : decode cX4_read 164 = .ok (.getfield 37, 3) := by decide +kernel
theorem dX4_read_167 : decode cX4_read 167 = .ok (.ifCond .le 35, 3) := by decide +kernel
theorem dX4_read_170 : decode cX4_read 170 = .ok (.iload_n 2, 1) := by decide +kernel
theorem dX4_read_171 : decode cX4_read 171 = .ok (.bipush 9, 2) := by decide +kernel
theorem dX4_read_173 : decode cX4_read 173 = .ok (.if_icmp .ne 29, 3) := by decide +kernel
theorem dX4_read_176 : decode cX4_read 176 = .ok (.aload_n 0, 1) := by decide +kernel
theorem dX4_read_177 : decode cX4_read 177 = .ok (.getfield 30, 3) := by decide +kernel
theorem dX4_read_180 : decode cX4_read 180 = .ok (.bipush 112, 2) := by decide +kernel
theorem dX4_read_182 : decode cX4_read 182 = .ok (.if_icmp .ne 20, 3) := by decide +kernel
theorem dX4_read_185 : decode cX4_read 185 = .ok (.aload_n 0, 1) := by decide +kernel
theorem dX4_read_186 : decode cX4_read 186 = .ok (.getstatic 58, 3) := by decide +kernel
theorem dX4_read_189 : decode cX4_read 189 = .ok (.putfield 15, 3) := by decide +kernel
theorem dX4_read_192 : decode cX4_read 192 = .ok (.aload_n 0, 1) := by decide +kernel
theorem dX4_read_193 : decode cX4_read 193 = .ok (.aload_n 1, 1) := by decide +kernel
theorem dX4_read_194 : decode cX4_read 194 = .ok (.iconst 5, 1) := by decide +kernel
theorem dX4_read_195 : decode cX4_read 195 = .ok (.iconst 0, 1) := by decide +kernel
theorem dX4_read_196 : decode cX4_read 196 = .ok (.invokevirtual 51, 3) := by decide +kernel
theorem dX4_read_199 : decode cX4_read 199 = .ok (.goto 14, 3) := by decide +kernel
theorem dX4_read_202 : decode cX4_read 202 = .ok (.aload_n 0, 1) := by decide +kernel
theorem dX4_read_203 : decode cX4_read 203 = .ok (.aload_n 0, 1) := by decide +kernel
theorem dX4_read_204 : decode cX4_read 204 = .ok (.iload 4, 2) := by decide +kernel
theorem dX4_read_206 : decode cX4_read 206 = .ok (.iload_n 2, 1) := by decide +kernel
theorem dX4_read_207 : decode cX4_read 207 = .ok (.invokevirtual 61, 3) := by decide +kernel
theorem dX4_read_210 : decode cX4_read 210 = .ok (.putfield 15, 3) := by decide +kernel
theorem dX4_read_213 : decode cX4_read 213 = .ok (.return_, 1) := by decide +kernel
theorem dX4_kindOfShort_0 : decode cX4_kindOfShort 0 = .ok (.iload_n 0, 1) := by decide +kernel
theorem dX4_kindOfShort_1 : decode cX4_kindOfShort 1 = .ok (.bipush 38, 2) := by decide +kernel
theorem dX4_kindOfShort_3 : decode cX4_kindOfShort 3 = .ok (.if_icmp .ne 7, 3) := by decide +kernel
theorem dX4_kindOfShort_6 : decode cX4_kindOfShort 6 = .ok (.getstatic 65, 3) := by decide +kernel
theorem dX4_kindOfShort_9 : decode cX4_kindOfShort 9 = .ok (.areturn, 1) := by decide +kernel
theorem dX4_kindOfShort_10 : decode cX4_kindOfShort 10 = .ok (.iload_n 0, 1) := by decide +kernel
theorem dX4_kindOfShort_11 : decode cX4_kindOfShort 11 = .ok (.bipush 82, 2) := by decide +kernel
theorem dX4_kindOfShort_13 : decode cX4_kindOfShort 13 = .ok (.if_icmp .ne 9, 3) := by decide +kernel
theorem dX4_kindOfShort_16 : decode cX4_kindOfShort 16 = .ok (.getstatic 68, 3) := by decide +kernel
theorem dX4_kindOfShort_19 : decode cX4_kindOfShort 19 = .ok (.goto 6, 3) := by decide +kernel
theorem dX4_kindOfShort_22 : decode cX4_kindOfShort 22 = .ok (.getstatic 9, 3) := by decide +kernel
theorem dX4_kindOfShort_25 : decode cX4_kindOfShort 25 = .ok (.areturn, 1) := by decide +kernel
theorem dX4_kindOfCommand_0 : decode cX4_kindOfCommand 0 = .ok (.iload_n 1, 1) := by decide +kernel
theorem dX4_kindOfCommand_1 : decode cX4_kindOfCommand 1 = .ok (.bipush 80, 2) := by decide +kernel
theorem dX4_kindOfCommand_3 : decode cX4_kindOfCommand 3 = .ok (.if_icmp .ne 19, 3) := by decide +kernel
theorem dX4_kindOfCommand_6 : decode cX4_kindOfCommand 6 = .ok (.iload_n 2, 1) := by decide +kernel
theorem dX4_kindOfCommand_7 : decode cX4_kindOfCommand 7 = .ok (.iconst 4, 1) := by decide +kernel
theorem dX4_kindOfCommand_8 : decode cX4_kindOfCommand 8 = .ok (.if_icmp .ne 14, 3) := by decide +kernel
theorem dX4_kindOfCommand_11 : decode cX4_kindOfCommand 11 = .ok (.aload_n 0, 1) := by decide +kernel
theorem dX4_kindOfCommand_12 : decode cX4_kindOfCommand 12 = .ok (.getfield 30, 3) := by decide +kernel
theorem dX4_kindOfCommand_15 : decode cX4_kindOfCommand 15 = .ok (.ifCond .ne 7, 3) := by decide +kernel
theorem dX4_kindOfCommand_18 : decode cX4_kindOfCommand 18 = .ok (.getstatic 71, 3) := by decide +kernel
theorem dX4_kindOfCommand_21 : decode cX4_kindOfCommand 21 = .ok (.areturn, 1) := by decide +kernel
theorem dX4_kindOfCommand_22 : decode cX4_kindOfCommand 22 = .ok (.iload_n 1, 1) := by decide +kernel
theorem dX4_kindOfCommand_23 : decode cX4_kindOfCommand 23 = .ok (.sipush 224, 3) := by decide +kernel
theorem dX4_kindOfCommand_26 : decode cX4_kindOfCommand 26 = .ok (.if_icmp .ne 12, 3) := by decide +kernel
theorem dX4_kindOfCommand_29 : decode cX4_kindOfCommand 29 = .ok (.iload_n 2, 1) := by decide +kernel
theorem dX4_kindOfCommand_30 : decode cX4_kindOfCommand 30 = .ok (.iconst 4, 1) := by decide +kernel
theorem dX4_kindOfCommand_31 : decode cX4_kindOfCommand 31 = .ok (.if_icmp .ne 7, 3) := by decide +kernel
theorem dX4_kindOfCommand_34 : decode cX4_kindOfCommand 34 = .ok (.getstatic 74, 3) := by decide +kernel
theorem dX4_kindOfCommand_37 : decode cX4_kindOfCommand 37 = .ok (.areturn, 1) := by decide +kernel
theorem dX4_kindOfCommand_38 : decode cX4_kindOfCommand 38 = .ok (.iload_n 1, 1) := by decide +kernel
theorem dX4_kindOfCommand_39 : decode cX4_kindOfCommand 39 = .ok (.sipush 194, 3) := by decide +kernel
theorem dX4_kindOfCommand_42 : decode cX4_kindOfCommand 42 = .ok (.if_icmp .ne 14, 3) := by decide +kernel
theorem dX4_kindOfCommand_45 : decode cX4_kindOfCommand 45 = .ok (.iload_n 2, 1) := by decide +kernel
theorem dX4_kindOfCommand_46 : decode cX4_kindOfCommand 46 = .ok (.iconst 3, 1) := by decide +kernel
theorem dX4_kindOfCommand_47 : decode cX4_kindOfCommand 47 = .ok (.if_icmp .ne 9, 3) := by decide +kernel
theorem dX4_kindOfCommand_50 : decode cX4_kindOfCommand 50 = .ok (.getstatic 77, 3) := by decide +kernel
theorem dX4_kindOfCommand_53 : decode cX4_kindOfCommand 53 = .ok (.goto 6, 3) := by decide +kernel
theorem dX4_kindOfCommand_56 : decode cX4_kindOfCommand 56 = .ok (.getstatic 9, 3) := by decide +kernel
theorem dX4_kindOfCommand_59 : decode cX4_kindOfCommand 59 = .ok (.areturn, 1) := by decide +kernel
theorem dX4_readTold_0 : decode cX4_readTold 0 = .ok (.aload_n 0, 1) := by decide +kernel
theorem dX4_readTold_1 : decode cX4_readTold 1 = .ok (.lconst 0, 1) := by decide +kernel
theorem dX4_readTold_2 : decode cX4_readTold 2 = .ok (.putfield 80, 3) := by decide +kernel
theorem dX4_readTold_5 : decode cX4_readTold 5 = .ok (.iconst 0, 1) := by decide +kernel
theorem dX4_readTold_6 : decode cX4_readTold 6 = .ok (.istore 4, 2) := by decide +kernel
theorem dX4_readTold_8 : decode cX4_readTold 8 = .ok (.iload 4, 2) := by decide +kernel
theorem dX4_readTold_10 : decode cX4_readTold 10 = .ok (.iload_n 2, 1) := by decide +kernel
theorem dX4_readTold_11 : decode cX4_readTold 11 = .ok (.if_icmp .ge 38, 3) := by decide +kernel
theorem dX4_readTold_14 : decode cX4_readTold 14 = .ok (.aload_n 0, 1) := by decide +kernel
theorem dX4_readTold_15 : decode cX4_readTold 15 = .ok (.dup, 1) := by decide +kernel
theorem dX4_readTold_16 : decode cX4_readTold 16 = .ok (.getfield 80, 3) := by decide +kernel
theorem dX4_readTold_19 : decode cX4_readTold 19 = .ok (.aload_n 1, 1) := by decide +kernel
theorem dX4_readTold_20 : decode cX4_readTold 20 = .ok (.bipush 9, 2) := by decide +kernel
theorem dX4_readTold_22 : decode cX4_readTold 22 = .ok (.iconst 2, 1) := by decide +kernel
theorem dX4_readTold_23 : decode cX4_readTold 23 = .ok (.iload 4, 2) := by decide +kernel
theorem dX4_readTold_25 : decode cX4_readTold 25 = .ok (.iadd, 1) := by decide +kernel
theorem dX4_readTold_26 : decode cX4_readTold 26 = .ok (.imul, 1) := by decide +kernel
theorem dX4_readTold_27 : decode cX4_readTold 27 = .ok (.bipush 8, 2) := by decide +kernel
theorem dX4_readTold_29 : decode cX4_readTold 29 = .ok (.invokevirtual 26, 3) := by decide +kernel
theorem dX4_readTold_32 : decode cX4_readTold 32 = .ok (.i2l, 1) := by decide +kernel
theorem dX4_readTold_33 : decode cX4_readTold 33 = .ok (.bipush 8, 2) := by decide +kernel
theorem dX4_readTold_35 : decode cX4_readTold 35 = .ok (.iload 4, 2) := by decide +kernel
theorem dX4_readTold_37 : decode cX4_readTold 37 = .ok (.imul, 1) := by decide +kernel
theorem dX4_readTold_38 : decode cX4_readTold 38 = .ok (.lshl, 1) := by decide +kernel
theorem dX4_readTold_39 : decode cX4_readTold 39 = .ok (.lor, 1) := by decide +kernel
theorem dX4_readTold_40 : decode cX4_readTold 40 = .ok (.putfield 80, 3) := by decide +kernel
theorem dX4_readTold_43 : decode cX4_readTold 43 = .ok (.iinc 4 1, 3) := by decide +kernel
theorem dX4_readTold_46 : decode cX4_readTold 46 = .ok (.goto (-38), 3) := by decide +kernel
theorem dX4_readTold_49 : decode cX4_readTold 49 = .ok (.aload_n 0, 1) := by decide +kernel
theorem dX4_readTold_50 : decode cX4_readTold 50 = .ok (.dup, 1) := by decide +kernel
theorem dX4_readTold_51 : decode cX4_readTold 51 = .ok (.getfield 80, 3) := by decide +kernel
theorem dX4_readTold_54 : decode cX4_readTold 54 = .ok (.aload_n 1, 1) := by decide +kernel
theorem dX4_readTold_55 : decode cX4_readTold 55 = .ok (.bipush 9, 2) := by decide +kernel
theorem dX4_readTold_57 : decode cX4_readTold 57 = .ok (.iconst 2, 1) := by decide +kernel
theorem dX4_readTold_58 : decode cX4_readTold 58 = .ok (.iload_n 2, 1) := by decide +kernel
theorem dX4_readTold_59 : decode cX4_readTold 59 = .ok (.iadd, 1) := by decide +kernel
theorem dX4_readTold_60 : decode cX4_readTold 60 = .ok (.imul, 1) := by decide +kernel
theorem dX4_readTold_61 : decode cX4_readTold 61 = .ok (.iload_n 3, 1) := by decide +kernel
theorem dX4_readTold_62 : decode cX4_readTold 62 = .ok (.invokevirtual 26, 3) := by decide +kernel
theorem dX4_readTold_65 : decode cX4_readTold 65 = .ok (.i2l, 1) := by decide +kernel
theorem dX4_readTold_66 : decode cX4_readTold 66 = .ok (.bipush 8, 2) := by decide +kernel
theorem dX4_readTold_68 : decode cX4_readTold 68 = .ok (.iload_n 2, 1) := by decide +kernel
theorem dX4_readTold_69 : decode cX4_readTold 69 = .ok (.imul, 1) := by decide +kernel
theorem dX4_readTold_70 : decode cX4_readTold 70 = .ok (.lshl, 1) := by decide +kernel
theorem dX4_readTold_71 : decode cX4_readTold 71 = .ok (.lor, 1) := by decide +kernel
theorem dX4_readTold_72 : decode cX4_readTold 72 = .ok (.putfield 80, 3) := by decide +kernel
theorem dX4_readTold_75 : decode cX4_readTold 75 = .ok (.aload_n 0, 1) := by decide +kernel
theorem dX4_readTold_76 : decode cX4_readTold 76 = .ok (.bipush 8, 2) := by decide +kernel
theorem dX4_readTold_78 : decode cX4_readTold 78 = .ok (.iload_n 2, 1) := by decide +kernel
theorem dX4_readTold_79 : decode cX4_readTold 79 = .ok (.imul, 1) := by decide +kernel
theorem dX4_readTold_80 : decode cX4_readTold 80 = .ok (.iload_n 3, 1) := by decide +kernel
theorem dX4_readTold_81 : decode cX4_readTold 81 = .ok (.iadd, 1) := by decide +kernel
theorem dX4_readTold_82 : decode cX4_readTold 82 = .ok (.putfield 84, 3) := by decide +kernel
theorem dX4_readTold_85 : decode cX4_readTold 85 = .ok (.return_, 1) := by decide +kernel
theorem dX4_levelOf_0 : decode cX4_levelOf 0 = .ok (.iconst 1, 1) := by decide +kernel
theorem dX4_levelOf_1 : decode cX4_levelOf 1 = .ok (.istore_n 1, 1) := by decide +kernel
theorem dX4_levelOf_2 : decode cX4_levelOf 2 = .ok (.iload_n 1, 1) := by decide +kernel
theorem dX4_levelOf_3 : decode cX4_levelOf 3 = .ok (.iconst 3, 1) := by decide +kernel
theorem dX4_levelOf_4 : decode cX4_levelOf 4 = .ok (.if_icmp .gt 19, 3) := by decide +kernel
theorem dX4_levelOf_7 : decode cX4_levelOf 7 = .ok (.iload_n 0, 1) := by decide +kernel
theorem dX4_levelOf_8 : decode cX4_levelOf 8 = .ok (.iload_n 1, 1) := by decide +kernel
theorem dX4_levelOf_9 : decode cX4_levelOf 9 = .ok (.invokestatic 87, 3) := by decide +kernel
theorem dX4_levelOf_12 : decode cX4_levelOf 12 = .ok (.if_icmp .ne 5, 3) := by decide +kernel
theorem dX4_levelOf_15 : decode cX4_levelOf 15 = .ok (.iload_n 1, 1) := by decide +kernel
theorem dX4_levelOf_16 : decode cX4_levelOf 16 = .ok (.ireturn, 1) := by decide +kernel
theorem dX4_levelOf_17 : decode cX4_levelOf 17 = .ok (.iinc 1 1, 3) := by decide +kernel
theorem dX4_levelOf_20 : decode cX4_levelOf 20 = .ok (.goto (-18), 3) := by decide +kernel
theorem dX4_levelOf_23 : decode cX4_levelOf 23 = .ok (.iconst 0, 1) := by decide +kernel
theorem dX4_levelOf_24 : decode cX4_levelOf 24 = .ok (.ireturn, 1) := by decide +kernel
theorem dX4_levelByte_0 : decode cX4_levelByte 0 = .ok (.sipush 145, 3) := by decide +kernel
theorem dX4_levelByte_3 : decode cX4_levelByte 3 = .ok (.iconst 2, 1) := by decide +kernel
theorem dX4_levelByte_4 : decode cX4_levelByte 4 = .ok (.iload_n 0, 1) := by decide +kernel
theorem dX4_levelByte_5 : decode cX4_levelByte 5 = .ok (.imul, 1) := by decide +kernel
theorem dX4_levelByte_6 : decode cX4_levelByte 6 = .ok (.iadd, 1) := by decide +kernel
theorem dX4_levelByte_7 : decode cX4_levelByte 7 = .ok (.ireturn, 1) := by decide +kernel
theorem dX6_init_0 : decode cX6_init 0 = .ok (.aload_n 0, 1) := by decide +kernel
theorem dX6_init_1 : decode cX6_init 1 = .ok (.invokespecial 3, 3) := by decide +kernel
theorem dX6_init_4 : decode cX6_init 4 = .ok (.aload_n 0, 1) := by decide +kernel
theorem dX6_init_5 : decode cX6_init 5 = .ok (.new 9, 3) := by decide +kernel
theorem dX6_init_8 : decode cX6_init 8 = .ok (.dup, 1) := by decide +kernel
theorem dX6_init_9 : decode cX6_init 9 = .ok (.bipush 81, 2) := by decide +kernel
theorem dX6_init_11 : decode cX6_init 11 = .ok (.invokespecial 11, 3) := by decide +kernel
theorem dX6_init_14 : decode cX6_init 14 = .ok (.putfield 14, 3) := by decide +kernel
theorem dX6_init_17 : decode cX6_init 17 = .ok (.aload_n 0, 1) := by decide +kernel
theorem dX6_init_18 : decode cX6_init 18 = .ok (.new 20, 3) := by decide +kernel
theorem dX6_init_21 : decode cX6_init 21 = .ok (.dup, 1) := by decide +kernel
theorem dX6_init_22 : decode cX6_init 22 = .ok (.invokespecial 22, 3) := by decide +kernel
theorem dX6_init_25 : decode cX6_init 25 = .ok (.putfield 23, 3) := by decide +kernel
theorem dX6_init_28 : decode cX6_init 28 = .ok (.aload_n 0, 1) := by decide +kernel
theorem dX6_init_29 : decode cX6_init 29 = .ok (.sipush 400, 3) := by decide +kernel
theorem dX6_init_32 : decode cX6_init 32 = .ok (.newarray .int, 2) := by decide +kernel
theorem dX6_init_34 : decode cX6_init 34 = .ok (.putfield 27, 3) := by decide +kernel
theorem dX6_init_37 : decode cX6_init 37 = .ok (.aload_n 0, 1) := by decide +kernel
theorem dX6_init_38 : decode cX6_init 38 = .ok (.bipush 40, 2) := by decide +kernel
theorem dX6_init_40 : decode cX6_init 40 = .ok (.newarray .int, 2) := by decide +kernel
theorem dX6_init_42 : decode cX6_init 42 = .ok (.putfield 31, 3) := by decide +kernel
theorem dX6_init_45 : decode cX6_init 45 = .ok (.return_, 1) := by decide +kernel
theorem dX6_forget_0 : decode cX6_forget 0 = .ok (.aload_n 0, 1) := by decide +kernel
theorem dX6_forget_1 : decode cX6_forget 1 = .ok (.iconst 0, 1) := by decide +kernel
theorem dX6_forget_2 : decode cX6_forget 2 = .ok (.putfield 34, 3) := by decide +kernel
theorem dX6_forget_5 : decode cX6_forget 5 = .ok (.return_, 1) := by decide +kernel
theorem dX6_byteFound_0 : decode cX6_byteFound 0 = .ok (.iload_n 1, 1) := by decide +kernel
theorem dX6_byteFound_1 : decode cX6_byteFound 1 = .ok (.ifCond .lt 25, 3) := by decide +kernel
theorem dX6_byteFound_4 : decode cX6_byteFound 4 = .ok (.iload_n 1, 1) := by decide +kernel
theorem dX6_byteFound_5 : decode cX6_byteFound 5 = .ok (.aload_n 0, 1) := by decide +kernel
theorem dX6_byteFound_6 : decode cX6_byteFound 6 = .ok (.getfield 34, 3) := by decide +kernel
theorem dX6_byteFound_9 : decode cX6_byteFound 9 = .ok (.if_icmp .ge 17, 3) := by decide +kernel
theorem dX6_byteFound_12 : decode cX6_byteFound 12 = .ok (.iload_n 2, 1) := by decide +kernel
theorem dX6_byteFound_13 : decode cX6_byteFound 13 = .ok (.ifCond .lt 13, 3) := by decide +kernel
theorem dX6_byteFound_16 : decode cX6_byteFound 16 = .ok (.iload_n 2, 1) := by decide +kernel
theorem dX6_byteFound_17 : decode cX6_byteFound 17 = .ok (.aload_n 0, 1) := by decide +kernel
theorem dX6_byteFound_18 : decode cX6_byteFound 18 = .ok (.getfield 31, 3) := by decide +kernel
theorem dX6_byteFound_21 : decode cX6_byteFound 21 = .ok (.iload_n 1, 1) := by decide +kernel
theorem dX6_byteFound_22 : decode cX6_byteFound 22 = .ok (.iaload, 1) := by decide +kernel
theorem dX6_byteFound_23 : decode cX6_byteFound 23 = .ok (.if_icmp .lt 5, 3) := by decide +kernel
theorem dX6_byteFound_26 : decode cX6_byteFound 26 = .ok (.iconst (-1), 1) := by decide +kernel
theorem dX6_byteFound_27 : decode cX6_byteFound 27 = .ok (.ireturn, 1) := by decide +kernel
theorem dX6_byteFound_28 : decode cX6_byteFound 28 = .ok (.aload_n 0, 1) := by decide +kernel
theorem dX6_byteFound_29 : decode cX6_byteFound 29 = .ok (.getfield 27, 3) := by decide +kernel
theorem dX6_byteFound_32 : decode cX6_byteFound 32 = .ok (.bipush 10, 2) := by decide +kernel
theorem dX6_byteFound_34 : decode cX6_byteFound 34 = .ok (.iload_n 1, 1) := by decide +kernel
theorem dX6_byteFound_35 : decode cX6_byteFound 35 = .ok (.imul, 1) := by decide +kernel
theorem dX6_byteFound_36 : decode cX6_byteFound 36 = .ok (.iload_n 2, 1) := by decide +kernel
theorem dX6_byteFound_37 : decode cX6_byteFound 37 = .ok (.iadd, 1) := by decide +kernel
theorem dX6_byteFound_38 : decode cX6_byteFound 38 = .ok (.iaload, 1) := by decide +kernel
theorem dX6_byteFound_39 : decode cX6_byteFound 39 = .ok (.ireturn, 1) := by decide +kernel
theorem dX6_findOne_0 : decode cX6_findOne 0 = .ok (.aload_n 0, 1) := by decide +kernel
theorem dX6_findOne_1 : decode cX6_findOne 1 = .ok (.getfield 14, 3) := by decide +kernel
theorem dX6_findOne_4 : decode cX6_findOne 4 = .ok (.invokevirtual 38, 3) := by decide +kernel
theorem dX6_findOne_7 : decode cX6_findOne 7 = .ok (.aload_n 0, 1) := by decide +kernel
theorem dX6_findOne_8 : decode cX6_findOne 8 = .ok (.getfield 14, 3) := by decide +kernel
theorem dX6_findOne_11 : decode cX6_findOne 11 = .ok (.bipush 38, 2) := by decide +kernel
theorem dX6_findOne_13 : decode cX6_findOne 13 = .ok (.bipush 7, 2) := by decide +kernel
theorem dX6_findOne_15 : decode cX6_findOne 15 = .ok (.invokevirtual 41, 3) := by decide +kernel
theorem dX6_findOne_18 : decode cX6_findOne 18 = .ok (.aload_n 0, 1) := by decide +kernel
theorem dX6_findOne_19 : decode cX6_findOne 19 = .ok (.getfield 34, 3) := by decide +kernel
theorem dX6_findOne_22 : decode cX6_findOne 22 = .ok (.bipush 40, 2) := by decide +kernel
theorem dX6_findOne_24 : decode cX6_findOne 24 = .ok (.if_icmp .ge 18, 3) := by decide +kernel
theorem dX6_findOne_27 : decode cX6_findOne 27 = .ok (.aload_n 1, 1) := by decide +kernel
theorem dX6_findOne_28 : decode cX6_findOne 28 = .ok (.aload_n 0, 1) := by decide +kernel
theorem dX6_findOne_29 : decode cX6_findOne 29 = .ok (.getfield 14, 3) := by decide +kernel
theorem dX6_findOne_32 : decode cX6_findOne 32 = .ok (.aload_n 0, 1) := by decide +kernel
theorem dX6_findOne_33 : decode cX6_findOne 33 = .ok (.getfield 23, 3) := by decide +kernel
theorem dX6_findOne_36 : decode cX6_findOne 36 = .ok (.invokevirtual 45, 3) := by decide +kernel
theorem dX6_findOne_39 : decode cX6_findOne 39 = .ok (.ifCond .ne 5, 3) := by decide +kernel
theorem dX6_findOne_42 : decode cX6_findOne 42 = .ok (.iconst 0, 1) := by decide +kernel
theorem dX6_findOne_43 : decode cX6_findOne 43 = .ok (.ireturn, 1) := by decide +kernel
theorem dX6_findOne_44 : decode cX6_findOne 44 = .ok (.aload_n 0, 1) := by decide +kernel
theorem dX6_findOne_45 : decode cX6_findOne 45 = .ok (.getfield 31, 3) := by decide +kernel
theorem dX6_findOne_48 : decode cX6_findOne 48 = .ok (.aload_n 0, 1) := by decide +kernel
theorem dX6_findOne_49 : decode cX6_findOne 49 = .ok (.getfield 34, 3) := by decide +kernel
theorem dX6_findOne_52 : decode cX6_findOne 52 = .ok (.iconst 0, 1) := by decide +kernel
theorem dX6_findOne_53 : decode cX6_findOne 53 = .ok (.iastore, 1) := by decide +kernel
theorem dX6_findOne_54 : decode cX6_findOne 54 = .ok (.iconst 1, 1) := by decide +kernel
theorem dX6_findOne_55 : decode cX6_findOne 55 = .ok (.istore_n 2, 1) := by decide +kernel
theorem dX6_findOne_56 : decode cX6_findOne 56 = .ok (.iload_n 2, 1) := by decide +kernel
theorem dX6_findOne_57 : decode cX6_findOne 57 = .ok (.iconst 3, 1) := by decide +kernel
theorem dX6_findOne_58 : decode cX6_findOne 58 = .ok (.if_icmp .gt 80, 3) := by decide +kernel
theorem dX6_findOne_61 : decode cX6_findOne 61 = .ok (.aload_n 0, 1) := by decide +kernel
theorem dX6_findOne_62 : decode cX6_findOne 62 = .ok (.iload_n 2, 1) := by decide +kernel
theorem dX6_findOne_63 : decode cX6_findOne 63 = .ok (.aload_n 1, 1) := by decide +kernel
theorem dX6_findOne_64 : decode cX6_findOne 64 = .ok (.invokevirtual 51, 3) := by decide +kernel
theorem dX6_findOne_67 : decode cX6_findOne 67 = .ok (.ifCond .eq 12, 3) := by decide +kernel
theorem dX6_findOne_70 : decode cX6_findOne 70 = .ok (.aload_n 0, 1) := by decide +kernel
theorem dX6_findOne_71 : decode cX6_findOne 71 = .ok (.iload_n 2, 1) := by decide +kernel
theorem dX6_findOne_72 : decode cX6_findOne 72 = .ok (.aload_n 1, 1) := by decide +kernel
theorem dX6_findOne_73 : decode cX6_findOne 73 = .ok (.invokevirtual 55, 3) := by decide +kernel
theorem dX6_findOne_76 : decode cX6_findOne 76 = .ok (.ifCond .ne 5, 3) := by decide +kernel
theorem dX6_findOne_79 : decode cX6_findOne 79 = .ok (.iconst 0, 1) := by decide +kernel
theorem dX6_findOne_80 : decode cX6_findOne 80 = .ok (.ireturn, 1) := by decide +kernel
theorem dX6_findOne_81 : decode cX6_findOne 81 = .ok (.aload_n 0, 1) := by decide +kernel
theorem dX6_findOne_82 : decode cX6_findOne 82 = .ok (.getfield 23, 3) := by decide +kernel
theorem dX6_findOne_85 : decode cX6_findOne 85 = .ok (.iconst 4, 1) := by decide +kernel
theorem dX6_findOne_86 : decode cX6_findOne 86 = .ok (.invokevirtual 58, 3) := by decide +kernel
theorem dX6_findOne_89 : decode cX6_findOne 89 = .ok (.ifCond .ne 7, 3) := by decide +kernel
theorem dX6_findOne_92 : decode cX6_findOne 92 = .ok (.iconst 1, 1) := by decide +kernel
theorem dX6_findOne_93 : decode cX6_findOne 93 = .ok (.goto 4, 3) := by decide +kernel
theorem dX6_findOne_96 : decode cX6_findOne 96 = .ok (.iconst 0, 1) := by decide +kernel
theorem dX6_findOne_97 : decode cX6_findOne 97 = .ok (.istore_n 3, 1) := by decide +kernel
theorem dX6_findOne_98 : decode cX6_findOne 98 = .ok (.aload_n 0, 1) := by decide +kernel
theorem dX6_findOne_99 : decode cX6_findOne 99 = .ok (.iload_n 3, 1) := by decide +kernel
theorem dX6_findOne_100 : decode cX6_findOne 100 = .ok (.ifCond .eq 7, 3) := by decide +kernel
theorem dX6_findOne_103 : decode cX6_findOne 103 = .ok (.iconst 0, 1) := by decide +kernel
theorem dX6_findOne_104 : decode cX6_findOne 104 = .ok (.goto 4, 3) := by decide +kernel
theorem dX6_findOne_107 : decode cX6_findOne 107 = .ok (.iconst 1, 1) := by decide +kernel
theorem dX6_findOne_108 : decode cX6_findOne 108 = .ok (.invokevirtual 62, 3) := by decide +kernel
theorem dX6_findOne_111 : decode cX6_findOne 111 = .ok (.iload_n 3, 1) := by decide +kernel
theorem dX6_findOne_112 : decode cX6_findOne 112 = .ok (.ifCond .eq 20, 3) := by decide +kernel
theorem dX6_findOne_115 : decode cX6_findOne 115 = .ok (.aload_n 0, 1) := by decide +kernel
theorem dX6_findOne_116 : decode cX6_findOne 116 = .ok (.dup, 1) := by decide +kernel
theorem dX6_findOne_117 : decode cX6_findOne 117 = .ok (.getfield 34, 3) := by decide +kernel
theorem dX6_findOne_120 : decode cX6_findOne 120 = .ok (.iconst 1, 1) := by decide +kernel
theorem dX6_findOne_121 : decode cX6_findOne 121 = .ok (.iadd, 1) := by decide +kernel
theorem dX6_findOne_122 : decode cX6_findOne 122 = .ok (.putfield 34, 3) := by decide +kernel
theorem dX6_findOne_125 : decode cX6_findOne 125 = .ok (.aload_n 0, 1) := by decide +kernel
theorem dX6_findOne_126 : decode cX6_findOne 126 = .ok (.aload_n 1, 1) := by decide +kernel
theorem dX6_findOne_127 : decode cX6_findOne 127 = .ok (.invokevirtual 65, 3) := by decide +kernel
theorem dX6_findOne_130 : decode cX6_findOne 130 = .ok (.iconst 1, 1) := by decide +kernel
theorem dX6_findOne_131 : decode cX6_findOne 131 = .ok (.ireturn, 1) := by decide +kernel
theorem dX6_findOne_132 : decode cX6_findOne 132 = .ok (.iinc 2 1, 3) := by decide +kernel
theorem dX6_findOne_135 : decode cX6_findOne 135 = .ok (.goto (-79), 3) := by decide +kernel
theorem dX6_findOne_138 : decode cX6_findOne 138 = .ok (.iconst 0, 1) := by decide +kernel
theorem dX6_findOne_139 : decode cX6_findOne 139 = .ok (.ireturn, 1) := by decide +kernel
theorem dX6_searchLevel_0 : decode cX6_searchLevel 0 = .ok (.aload_n 0, 1) := by decide +kernel
theorem dX6_searchLevel_1 : decode cX6_searchLevel 1 = .ok (.lconst 0, 1) := by decide +kernel
theorem dX6_searchLevel_2 : decode cX6_searchLevel 2 = .ok (.putfield 69, 3) := by decide +kernel
theorem dX6_searchLevel_5 : decode cX6_searchLevel 5 = .ok (.aload_n 0, 1) := by decide +kernel
theorem dX6_searchLevel_6 : decode cX6_searchLevel 6 = .ok (.iconst 0, 1) := by decide +kernel
theorem dX6_searchLevel_7 : decode cX6_searchLevel 7 = .ok (.putfield 73, 3) := by decide +kernel
theorem dX6_searchLevel_10 : decode cX6_searchLevel 10 = .ok (.iconst 0, 1) := by decide +kernel
theorem dX6_searchLevel_11 : decode cX6_searchLevel 11 = .ok (.istore_n 3, 1) := by decide +kernel
theorem dX6_searchLevel_12 : decode cX6_searchLevel 12 = .ok (.iload_n 3, 1) := by decide +kernel
theorem dX6_searchLevel_13 : decode cX6_searchLevel 13 = .ok (.bipush 40, 2) := by decide +kernel
theorem dX6_searchLevel_15 : decode cX6_searchLevel 15 = .ok (.if_icmp .ge 44, 3) := by decide +kernel
theorem dX6_searchLevel_18 : decode cX6_searchLevel 18 = .ok (.aload_n 0, 1) := by decide +kernel
theorem dX6_searchLevel_19 : decode cX6_searchLevel 19 = .ok (.getfield 73, 3) := by decide +kernel
theorem dX6_searchLevel_22 : decode cX6_searchLevel 22 = .ok (.bipush 40, 2) := by decide +kernel
theorem dX6_searchLevel_24 : decode cX6_searchLevel 24 = .ok (.if_icmp .ge 35, 3) := by decide +kernel
theorem dX6_searchLevel_27 : decode cX6_searchLevel 27 = .ok (.aload_n 0, 1) := by decide +kernel
theorem dX6_searchLevel_28 : decode cX6_searchLevel 28 = .ok (.iload_n 1, 1) := by decide +kernel
theorem dX6_searchLevel_29 : decode cX6_searchLevel 29 = .ok (.invokevirtual 76, 3) := by decide +kernel
theorem dX6_searchLevel_32 : decode cX6_searchLevel 32 = .ok (.aload_n 2, 1) := by decide +kernel
theorem dX6_searchLevel_33 : decode cX6_searchLevel 33 = .ok (.aload_n 0, 1) := by decide +kernel
theorem dX6_searchLevel_34 : decode cX6_searchLevel 34 = .ok (.getfield 14, 3) := by decide +kernel
theorem dX6_searchLevel_37 : decode cX6_searchLevel 37 = .ok (.aload_n 0, 1) := by decide +kernel
theorem dX6_searchLevel_38 : decode cX6_searchLevel 38 = .ok (.getfield 23, 3) := by decide +kernel
theorem dX6_searchLevel_41 : decode cX6_searchLevel 41 = .ok (.invokevirtual 45, 3) := by decide +kernel
theorem dX6_searchLevel_44 : decode cX6_searchLevel 44 = .ok (.ifCond .ne 5, 3) := by decide +kernel
theorem dX6_searchLevel_47 : decode cX6_searchLevel 47 = .ok (.iconst 0, 1) := by decide +kernel
theorem dX6_searchLevel_48 : decode cX6_searchLevel 48 = .ok (.ireturn, 1) := by decide +kernel
theorem dX6_searchLevel_49 : decode cX6_searchLevel 49 = .ok (.aload_n 0, 1) := by decide +kernel
theorem dX6_searchLevel_50 : decode cX6_searchLevel 50 = .ok (.invokevirtual 79, 3) := by decide +kernel
theorem dX6_searchLevel_53 : decode cX6_searchLevel 53 = .ok (.iinc 3 1, 3) := by decide +kernel
theorem dX6_searchLevel_56 : decode cX6_searchLevel 56 = .ok (.goto (-44), 3) := by decide +kernel
theorem dX6_searchLevel_59 : decode cX6_searchLevel 59 = .ok (.iconst 1, 1) := by decide +kernel
theorem dX6_searchLevel_60 : decode cX6_searchLevel 60 = .ok (.ireturn, 1) := by decide +kernel
theorem dX6_layOutSearch_0 : decode cX6_layOutSearch 0 = .ok (.aload_n 0, 1) := by decide +kernel
theorem dX6_layOutSearch_1 : decode cX6_layOutSearch 1 = .ok (.getfield 73, 3) := by decide +kernel
theorem dX6_layOutSearch_4 : decode cX6_layOutSearch 4 = .ok (.bipush 8, 2) := by decide +kernel
theorem dX6_layOutSearch_6 : decode cX6_layOutSearch 6 = .ok (.idiv, 1) := by decide +kernel
theorem dX6_layOutSearch_7 : decode cX6_layOutSearch 7 = .ok (.istore_n 2, 1) := by decide +kernel
theorem dX6_layOutSearch_8 : decode cX6_layOutSearch 8 = .ok (.aload_n 0, 1) := by decide +kernel
theorem dX6_layOutSearch_9 : decode cX6_layOutSearch 9 = .ok (.getfield 73, 3) := by decide +kernel
theorem dX6_layOutSearch_12 : decode cX6_layOutSearch 12 = .ok (.bipush 8, 2) := by decide +kernel
theorem dX6_layOutSearch_14 : decode cX6_layOutSearch 14 = .ok (.irem, 1) := by decide +kernel
theorem dX6_layOutSearch_15 : decode cX6_layOutSearch 15 = .ok (.istore_n 3, 1) := by decide +kernel
theorem dX6_layOutSearch_16 : decode cX6_layOutSearch 16 = .ok (.aload_n 0, 1) := by decide +kernel
theorem dX6_layOutSearch_17 : decode cX6_layOutSearch 17 = .ok (.getfield 14, 3) := by decide +kernel
theorem dX6_layOutSearch_20 : decode cX6_layOutSearch 20 = .ok (.invokevirtual 38, 3) := by decide +kernel
theorem dX6_layOutSearch_23 : decode cX6_layOutSearch 23 = .ok (.aload_n 0, 1) := by decide +kernel
theorem dX6_layOutSearch_24 : decode cX6_layOutSearch 24 = .ok (.getfield 14, 3) := by decide +kernel
theorem dX6_layOutSearch_27 : decode cX6_layOutSearch 27 = .ok (.iload_n 1, 1) := by decide +kernel
theorem dX6_layOutSearch_28 : decode cX6_layOutSearch 28 = .ok (.invokestatic 82, 3) := by decide +kernel
theorem dX6_layOutSearch_31 : decode cX6_layOutSearch 31 = .ok (.invokevirtual 88, 3) := by decide +kernel
theorem dX6_layOutSearch_34 : decode cX6_layOutSearch 34 = .ok (.aload_n 0, 1) := by decide +kernel
theorem dX6_layOutSearch_35 : decode cX6_layOutSearch 35 = .ok (.getfield 14, 3) := by decide +kernel
theorem dX6_layOutSearch_38 : decode cX6_layOutSearch 38 = .ok (.bipush 32, 2) := by decide +kernel
theorem dX6_layOutSearch_40 : decode cX6_layOutSearch 40 = .ok (.bipush 16, 2) := by decide +kernel
theorem dX6_layOutSearch_42 : decode cX6_layOutSearch 42 = .ok (.iload_n 2, 1) := by decide +kernel
theorem dX6_layOutSearch_43 : decode cX6_layOutSearch 43 = .ok (.imul, 1) := by decide +kernel
theorem dX6_layOutSearch_44 : decode cX6_layOutSearch 44 = .ok (.iadd, 1) := by decide +kernel
theorem dX6_layOutSearch_45 : decode cX6_layOutSearch 45 = .ok (.iload_n 3, 1) := by decide +kernel
theorem dX6_layOutSearch_46 : decode cX6_layOutSearch 46 = .ok (.iadd, 1) := by decide +kernel
theorem dX6_layOutSearch_47 : decode cX6_layOutSearch 47 = .ok (.invokevirtual 88, 3) := by decide +kernel
theorem dX6_layOutSearch_50 : decode cX6_layOutSearch 50 = .ok (.iconst 0, 1) := by decide +kernel
theorem dX6_layOutSearch_51 : decode cX6_layOutSearch 51 = .ok (.istore 4, 2) := by decide +kernel
theorem dX6_layOutSearch_53 : decode cX6_layOutSearch 53 = .ok (.iload 4, 2) := by decide +kernel
theorem dX6_layOutSearch_55 : decode cX6_layOutSearch 55 = .ok (.iload_n 2, 1) := by decide +kernel
theorem dX6_layOutSearch_56 : decode cX6_layOutSearch 56 = .ok (.if_icmp .ge 22, 3) := by decide +kernel
theorem dX6_layOutSearch_59 : decode cX6_layOutSearch 59 = .ok (.aload_n 0, 1) := by decide +kernel
theorem dX6_layOutSearch_60 : decode cX6_layOutSearch 60 = .ok (.getfield 14, 3) := by decide +kernel
theorem dX6_layOutSearch_63 : decode cX6_layOutSearch 63 = .ok (.aload_n 0, 1) := by decide +kernel
theorem dX6_layOutSearch_64 : decode cX6_layOutSearch 64 = .ok (.iload 4, 2) := by decide +kernel
theorem dX6_layOutSearch_66 : decode cX6_layOutSearch 66 = .ok (.invokevirtual 91, 3) := by decide +kernel
theorem dX6_layOutSearch_69 : decode cX6_layOutSearch 69 = .ok (.invokevirtual 88, 3) := by decide +kernel
theorem dX6_layOutSearch_72 : decode cX6_layOutSearch 72 = .ok (.iinc 4 1, 3) := by decide +kernel
theorem dX6_layOutSearch_75 : decode cX6_layOutSearch 75 = .ok (.goto (-22), 3) := by decide +kernel
theorem dX6_layOutSearch_78 : decode cX6_layOutSearch 78 = .ok (.aload_n 0, 1) := by decide +kernel
theorem dX6_layOutSearch_79 : decode cX6_layOutSearch 79 = .ok (.getfield 14, 3) := by decide +kernel
theorem dX6_layOutSearch_82 : decode cX6_layOutSearch 82 = .ok (.aload_n 0, 1) := by decide +kernel
theorem dX6_layOutSearch_83 : decode cX6_layOutSearch 83 = .ok (.iload_n 2, 1) := by decide +kernel
theorem dX6_layOutSearch_84 : decode cX6_layOutSearch 84 = .ok (.invokevirtual 91, 3) := by decide +kernel
theorem dX6_layOutSearch_87 : decode cX6_layOutSearch 87 = .ok (.iload_n 3, 1) := by decide +kernel
theorem dX6_layOutSearch_88 : decode cX6_layOutSearch 88 = .ok (.invokevirtual 41, 3) := by decide +kernel
theorem dX6_layOutSearch_91 : decode cX6_layOutSearch 91 = .ok (.return_, 1) := by decide +kernel
theorem dX6_learn_0 : decode cX6_learn 0 = .ok (.aload_n 0, 1) := by decide +kernel
theorem dX6_learn_1 : decode cX6_learn 1 = .ok (.getfield 73, 3) := by decide +kernel
theorem dX6_learn_4 : decode cX6_learn 4 = .ok (.aload_n 0, 1) := by decide +kernel
theorem dX6_learn_5 : decode cX6_learn 5 = .ok (.getfield 73, 3) := by decide +kernel
theorem dX6_learn_8 : decode cX6_learn 8 = .ok (.bipush 8, 2) := by decide +kernel
theorem dX6_learn_10 : decode cX6_learn 10 = .ok (.idiv, 1) := by decide +kernel
theorem dX6_learn_11 : decode cX6_learn 11 = .ok (.iadd, 1) := by decide +kernel
theorem dX6_learn_12 : decode cX6_learn 12 = .ok (.istore_n 1, 1) := by decide +kernel
theorem dX6_learn_13 : decode cX6_learn 13 = .ok (.iconst 0, 1) := by decide +kernel
theorem dX6_learn_14 : decode cX6_learn 14 = .ok (.istore_n 2, 1) := by decide +kernel
theorem dX6_learn_15 : decode cX6_learn 15 = .ok (.aload_n 0, 1) := by decide +kernel
theorem dX6_learn_16 : decode cX6_learn 16 = .ok (.getfield 73, 3) := by decide +kernel
theorem dX6_learn_19 : decode cX6_learn 19 = .ok (.bipush 40, 2) := by decide +kernel
theorem dX6_learn_21 : decode cX6_learn 21 = .ok (.if_icmp .ge 72, 3) := by decide +kernel
theorem dX6_learn_24 : decode cX6_learn 24 = .ok (.iload_n 2, 1) := by decide +kernel
theorem dX6_learn_25 : decode cX6_learn 25 = .ok (.ifCond .ne 68, 3) := by decide +kernel
theorem dX6_learn_28 : decode cX6_learn 28 = .ok (.aload_n 0, 1) := by decide +kernel
theorem dX6_learn_29 : decode cX6_learn 29 = .ok (.getfield 23, 3) := by decide +kernel
theorem dX6_learn_32 : decode cX6_learn 32 = .ok (.aload_n 0, 1) := by decide +kernel
theorem dX6_learn_33 : decode cX6_learn 33 = .ok (.getfield 73, 3) := by decide +kernel
theorem dX6_learn_36 : decode cX6_learn 36 = .ok (.aload_n 0, 1) := by decide +kernel
theorem dX6_learn_37 : decode cX6_learn 37 = .ok (.getfield 73, 3) := by decide +kernel
theorem dX6_learn_40 : decode cX6_learn 40 = .ok (.bipush 8, 2) := by decide +kernel
theorem dX6_learn_42 : decode cX6_learn 42 = .ok (.idiv, 1) := by decide +kernel
theorem dX6_learn_43 : decode cX6_learn 43 = .ok (.iadd, 1) := by decide +kernel
theorem dX6_learn_44 : decode cX6_learn 44 = .ok (.iload_n 1, 1) := by decide +kernel
theorem dX6_learn_45 : decode cX6_learn 45 = .ok (.isub, 1) := by decide +kernel
theorem dX6_learn_46 : decode cX6_learn 46 = .ok (.invokevirtual 94, 3) := by decide +kernel
theorem dX6_learn_49 : decode cX6_learn 49 = .ok (.istore_n 3, 1) := by decide +kernel
theorem dX6_learn_50 : decode cX6_learn 50 = .ok (.iload_n 3, 1) := by decide +kernel
theorem dX6_learn_51 : decode cX6_learn 51 = .ok (.iconst 2, 1) := by decide +kernel
theorem dX6_learn_52 : decode cX6_learn 52 = .ok (.if_icmp .ne 7, 3) := by decide +kernel
theorem dX6_learn_55 : decode cX6_learn 55 = .ok (.iconst 1, 1) := by decide +kernel
theorem dX6_learn_56 : decode cX6_learn 56 = .ok (.goto 4, 3) := by decide +kernel
theorem dX6_learn_59 : decode cX6_learn 59 = .ok (.iconst 0, 1) := by decide +kernel
theorem dX6_learn_60 : decode cX6_learn 60 = .ok (.istore_n 2, 1) := by decide +kernel
theorem dX6_learn_61 : decode cX6_learn 61 = .ok (.iload_n 3, 1) := by decide +kernel
theorem dX6_learn_62 : decode cX6_learn 62 = .ok (.ifCond .le 18, 3) := by decide +kernel
theorem dX6_learn_65 : decode cX6_learn 65 = .ok (.aload_n 0, 1) := by decide +kernel
theorem dX6_learn_66 : decode cX6_learn 66 = .ok (.dup, 1) := by decide +kernel
theorem dX6_learn_67 : decode cX6_learn 67 = .ok (.getfield 69, 3) := by decide +kernel
theorem dX6_learn_70 : decode cX6_learn 70 = .ok (.lconst 1, 1) := by decide +kernel
theorem dX6_learn_71 : decode cX6_learn 71 = .ok (.aload_n 0, 1) := by decide +kernel
theorem dX6_learn_72 : decode cX6_learn 72 = .ok (.getfield 73, 3) := by decide +kernel
theorem dX6_learn_75 : decode cX6_learn 75 = .ok (.lshl, 1) := by decide +kernel
theorem dX6_learn_76 : decode cX6_learn 76 = .ok (.lor, 1) := by decide +kernel
theorem dX6_learn_77 : decode cX6_learn 77 = .ok (.putfield 69, 3) := by decide +kernel
theorem dX6_learn_80 : decode cX6_learn 80 = .ok (.aload_n 0, 1) := by decide +kernel
theorem dX6_learn_81 : decode cX6_learn 81 = .ok (.dup, 1) := by decide +kernel
theorem dX6_learn_82 : decode cX6_learn 82 = .ok (.getfield 73, 3) := by decide +kernel
theorem dX6_learn_85 : decode cX6_learn 85 = .ok (.iconst 1, 1) := by decide +kernel
theorem dX6_learn_86 : decode cX6_learn 86 = .ok (.iadd, 1) := by decide +kernel
theorem dX6_learn_87 : decode cX6_learn 87 = .ok (.putfield 73, 3) := by decide +kernel
theorem dX6_learn_90 : decode cX6_learn 90 = .ok (.goto (-75), 3) := by decide +kernel
theorem dX6_learn_93 : decode cX6_learn 93 = .ok (.return_, 1) := by decide +kernel
theorem dX6_choose_0 : decode cX6_choose 0 = .ok (.aload_n 0, 1) := by decide +kernel
theorem dX6_choose_1 : decode cX6_choose 1 = .ok (.getfield 14, 3) := by decide +kernel
theorem dX6_choose_4 : decode cX6_choose 4 = .ok (.invokevirtual 38, 3) := by decide +kernel
theorem dX6_choose_7 : decode cX6_choose 7 = .ok (.aload_n 0, 1) := by decide +kernel
theorem dX6_choose_8 : decode cX6_choose 8 = .ok (.getfield 14, 3) := by decide +kernel
theorem dX6_choose_11 : decode cX6_choose 11 = .ok (.iload_n 1, 1) := by decide +kernel
theorem dX6_choose_12 : decode cX6_choose 12 = .ok (.invokestatic 82, 3) := by decide +kernel
theorem dX6_choose_15 : decode cX6_choose 15 = .ok (.invokevirtual 88, 3) := by decide +kernel
theorem dX6_choose_18 : decode cX6_choose 18 = .ok (.aload_n 0, 1) := by decide +kernel
theorem dX6_choose_19 : decode cX6_choose 19 = .ok (.getfield 14, 3) := by decide +kernel
theorem dX6_choose_22 : decode cX6_choose 22 = .ok (.bipush 112, 2) := by decide +kernel
theorem dX6_choose_24 : decode cX6_choose 24 = .ok (.invokevirtual 88, 3) := by decide +kernel
theorem dX6_choose_27 : decode cX6_choose 27 = .ok (.iconst 0, 1) := by decide +kernel
theorem dX6_choose_28 : decode cX6_choose 28 = .ok (.istore_n 3, 1) := by decide +kernel
theorem dX6_choose_29 : decode cX6_choose 29 = .ok (.iload_n 3, 1) := by decide +kernel
theorem dX6_choose_30 : decode cX6_choose 30 = .ok (.iconst 5, 1) := by decide +kernel
theorem dX6_choose_31 : decode cX6_choose 31 = .ok (.if_icmp .ge 21, 3) := by decide +kernel
theorem dX6_choose_34 : decode cX6_choose 34 = .ok (.aload_n 0, 1) := by decide +kernel
theorem dX6_choose_35 : decode cX6_choose 35 = .ok (.getfield 14, 3) := by decide +kernel
theorem dX6_choose_38 : decode cX6_choose 38 = .ok (.aload_n 0, 1) := by decide +kernel
theorem dX6_choose_39 : decode cX6_choose 39 = .ok (.iload_n 3, 1) := by decide +kernel
theorem dX6_choose_40 : decode cX6_choose 40 = .ok (.invokevirtual 91, 3) := by decide +kernel
theorem dX6_choose_43 : decode cX6_choose 43 = .ok (.invokevirtual 88, 3) := by decide +kernel
theorem dX6_choose_46 : decode cX6_choose 46 = .ok (.iinc 3 1, 3) := by decide +kernel
theorem dX6_choose_49 : decode cX6_choose 49 = .ok (.goto (-20), 3) := by decide +kernel
theorem dX6_choose_52 : decode cX6_choose 52 = .ok (.aload_n 0, 1) := by decide +kernel
theorem dX6_choose_53 : decode cX6_choose 53 = .ok (.getfield 14, 3) := by decide +kernel
theorem dX6_choose_56 : decode cX6_choose 56 = .ok (.invokevirtual 97, 3) := by decide +kernel
theorem dX6_choose_59 : decode cX6_choose 59 = .ok (.aload_n 2, 1) := by decide +kernel
theorem dX6_choose_60 : decode cX6_choose 60 = .ok (.aload_n 0, 1) := by decide +kernel
theorem dX6_choose_61 : decode cX6_choose 61 = .ok (.getfield 14, 3) := by decide +kernel
theorem dX6_choose_64 : decode cX6_choose 64 = .ok (.aload_n 0, 1) := by decide +kernel
theorem dX6_choose_65 : decode cX6_choose 65 = .ok (.getfield 23, 3) := by decide +kernel
theorem dX6_choose_68 : decode cX6_choose 68 = .ok (.invokevirtual 45, 3) := by decide +kernel
theorem dX6_choose_71 : decode cX6_choose 71 = .ok (.ifCond .le 7, 3) := by decide +kernel
theorem dX6_choose_74 : decode cX6_choose 74 = .ok (.iconst 1, 1) := by decide +kernel
theorem dX6_choose_75 : decode cX6_choose 75 = .ok (.goto 4, 3) := by decide +kernel
theorem dX6_choose_78 : decode cX6_choose 78 = .ok (.iconst 0, 1) := by decide +kernel
theorem dX6_choose_79 : decode cX6_choose 79 = .ok (.ireturn, 1) := by decide +kernel
theorem dX6_halt_0 : decode cX6_halt 0 = .ok (.aload_n 0, 1) := by decide +kernel
theorem dX6_halt_1 : decode cX6_halt 1 = .ok (.getfield 14, 3) := by decide +kernel
theorem dX6_halt_4 : decode cX6_halt 4 = .ok (.invokevirtual 38, 3) := by decide +kernel
theorem dX6_halt_7 : decode cX6_halt 7 = .ok (.aload_n 0, 1) := by decide +kernel
theorem dX6_halt_8 : decode cX6_halt 8 = .ok (.getfield 14, 3) := by decide +kernel
theorem dX6_halt_11 : decode cX6_halt 11 = .ok (.bipush 80, 2) := by decide +kernel
theorem dX6_halt_13 : decode cX6_halt 13 = .ok (.invokevirtual 88, 3) := by decide +kernel
theorem dX6_halt_16 : decode cX6_halt 16 = .ok (.aload_n 0, 1) := by decide +kernel
theorem dX6_halt_17 : decode cX6_halt 17 = .ok (.getfield 14, 3) := by decide +kernel
theorem dX6_halt_20 : decode cX6_halt 20 = .ok (.iconst 0, 1) := by decide +kernel
theorem dX6_halt_21 : decode cX6_halt 21 = .ok (.invokevirtual 88, 3) := by decide +kernel
theorem dX6_halt_24 : decode cX6_halt 24 = .ok (.aload_n 0, 1) := by decide +kernel
theorem dX6_halt_25 : decode cX6_halt 25 = .ok (.getfield 14, 3) := by decide +kernel
theorem dX6_halt_28 : decode cX6_halt 28 = .ok (.invokevirtual 97, 3) := by decide +kernel
theorem dX6_halt_31 : decode cX6_halt 31 = .ok (.aload_n 1, 1) := by decide +kernel
theorem dX6_halt_32 : decode cX6_halt 32 = .ok (.aload_n 0, 1) := by decide +kernel
theorem dX6_halt_33 : decode cX6_halt 33 = .ok (.getfield 14, 3) := by decide +kernel
theorem dX6_halt_36 : decode cX6_halt 36 = .ok (.aload_n 0, 1) := by decide +kernel
theorem dX6_halt_37 : decode cX6_halt 37 = .ok (.getfield 23, 3) := by decide +kernel
theorem dX6_halt_40 : decode cX6_halt 40 = .ok (.invokevirtual 45, 3) := by decide +kernel
theorem dX6_halt_43 : decode cX6_halt 43 = .ok (.pop, 1) := by decide +kernel
theorem dX6_halt_44 : decode cX6_halt 44 = .ok (.return_, 1) := by decide +kernel
theorem dX6_knownByte_0 : decode cX6_knownByte 0 = .ok (.aload_n 0, 1) := by decide +kernel
theorem dX6_knownByte_1 : decode cX6_knownByte 1 = .ok (.getfield 69, 3) := by decide +kernel
theorem dX6_knownByte_4 : decode cX6_knownByte 4 = .ok (.bipush 8, 2) := by decide +kernel
theorem dX6_knownByte_6 : decode cX6_knownByte 6 = .ok (.iload_n 1, 1) := by decide +kernel
theorem dX6_knownByte_7 : decode cX6_knownByte 7 = .ok (.imul, 1) := by decide +kernel
theorem dX6_knownByte_8 : decode cX6_knownByte 8 = .ok (.lushr, 1) := by decide +kernel
theorem dX6_knownByte_9 : decode cX6_knownByte 9 = .ok (.l2i, 1) := by decide +kernel
theorem dX6_knownByte_10 : decode cX6_knownByte 10 = .ok (.sipush 255, 3) := by decide +kernel
theorem dX6_knownByte_13 : decode cX6_knownByte 13 = .ok (.iand, 1) := by decide +kernel
theorem dX6_knownByte_14 : decode cX6_knownByte 14 = .ok (.ireturn, 1) := by decide +kernel
theorem dX6_keepBytes_0 : decode cX6_keepBytes 0 = .ok (.iload_n 1, 1) := by decide +kernel
theorem dX6_keepBytes_1 : decode cX6_keepBytes 1 = .ok (.istore_n 2, 1) := by decide +kernel
theorem dX6_keepBytes_2 : decode cX6_keepBytes 2 = .ok (.iload_n 2, 1) := by decide +kernel
theorem dX6_keepBytes_3 : decode cX6_keepBytes 3 = .ok (.iconst 4, 1) := by decide +kernel
theorem dX6_keepBytes_4 : decode cX6_keepBytes 4 = .ok (.if_icmp .ge 49, 3) := by decide +kernel
theorem dX6_keepBytes_7 : decode cX6_keepBytes 7 = .ok (.aload_n 0, 1) := by decide +kernel
theorem dX6_keepBytes_8 : decode cX6_keepBytes 8 = .ok (.getfield 27, 3) := by decide +kernel
theorem dX6_keepBytes_11 : decode cX6_keepBytes 11 = .ok (.bipush 10, 2) := by decide +kernel
theorem dX6_keepBytes_13 : decode cX6_keepBytes 13 = .ok (.aload_n 0, 1) := by decide +kernel
theorem dX6_keepBytes_14 : decode cX6_keepBytes 14 = .ok (.getfield 34, 3) := by decide +kernel
theorem dX6_keepBytes_17 : decode cX6_keepBytes 17 = .ok (.imul, 1) := by decide +kernel
theorem dX6_keepBytes_18 : decode cX6_keepBytes 18 = .ok (.aload_n 0, 1) := by decide +kernel
theorem dX6_keepBytes_19 : decode cX6_keepBytes 19 = .ok (.getfield 31, 3) := by decide +kernel
theorem dX6_keepBytes_22 : decode cX6_keepBytes 22 = .ok (.aload_n 0, 1) := by decide +kernel
theorem dX6_keepBytes_23 : decode cX6_keepBytes 23 = .ok (.getfield 34, 3) := by decide +kernel
theorem dX6_keepBytes_26 : decode cX6_keepBytes 26 = .ok (.iaload, 1) := by decide +kernel
theorem dX6_keepBytes_27 : decode cX6_keepBytes 27 = .ok (.iadd, 1) := by decide +kernel
theorem dX6_keepBytes_28 : decode cX6_keepBytes 28 = .ok (.aload_n 0, 1) := by decide +kernel
theorem dX6_keepBytes_29 : decode cX6_keepBytes 29 = .ok (.iload_n 2, 1) := by decide +kernel
theorem dX6_keepBytes_30 : decode cX6_keepBytes 30 = .ok (.invokevirtual 91, 3) := by decide +kernel
theorem dX6_keepBytes_33 : decode cX6_keepBytes 33 = .ok (.iastore, 1) := by decide +kernel
theorem dX6_keepBytes_34 : decode cX6_keepBytes 34 = .ok (.aload_n 0, 1) := by decide +kernel
theorem dX6_keepBytes_35 : decode cX6_keepBytes 35 = .ok (.getfield 31, 3) := by decide +kernel
theorem dX6_keepBytes_38 : decode cX6_keepBytes 38 = .ok (.aload_n 0, 1) := by decide +kernel
theorem dX6_keepBytes_39 : decode cX6_keepBytes 39 = .ok (.getfield 34, 3) := by decide +kernel
theorem dX6_keepBytes_42 : decode cX6_keepBytes 42 = .ok (.dup2, 1) := by decide +kernel
theorem dX6_keepBytes_43 : decode cX6_keepBytes 43 = .ok (.iaload, 1) := by decide +kernel
theorem dX6_keepBytes_44 : decode cX6_keepBytes 44 = .ok (.iconst 1, 1) := by decide +kernel
theorem dX6_keepBytes_45 : decode cX6_keepBytes 45 = .ok (.iadd, 1) := by decide +kernel
theorem dX6_keepBytes_46 : decode cX6_keepBytes 46 = .ok (.iastore, 1) := by decide +kernel
theorem dX6_keepBytes_47 : decode cX6_keepBytes 47 = .ok (.iinc 2 1, 3) := by decide +kernel
theorem dX6_keepBytes_50 : decode cX6_keepBytes 50 = .ok (.goto (-48), 3) := by decide +kernel
theorem dX6_keepBytes_53 : decode cX6_keepBytes 53 = .ok (.return_, 1) := by decide +kernel
theorem dX8_init_0 : decode cX8_init 0 = .ok (.aload_n 0, 1) := by decide +kernel
theorem dX8_init_1 : decode cX8_init 1 = .ok (.invokespecial 3, 3) := by decide +kernel
theorem dX8_init_4 : decode cX8_init 4 = .ok (.aload_n 0, 1) := by decide +kernel
theorem dX8_init_5 : decode cX8_init 5 = .ok (.iload_n 1, 1) := by decide +kernel
theorem dX8_init_6 : decode cX8_init 6 = .ok (.newarray .int, 2) := by decide +kernel
theorem dX8_init_8 : decode cX8_init 8 = .ok (.putfield 9, 3) := by decide +kernel
theorem dX8_init_11 : decode cX8_init 11 = .ok (.return_, 1) := by decide +kernel
theorem dX8_clear_0 : decode cX8_clear 0 = .ok (.aload_n 0, 1) := by decide +kernel
theorem dX8_clear_1 : decode cX8_clear 1 = .ok (.iconst 0, 1) := by decide +kernel
theorem dX8_clear_2 : decode cX8_clear 2 = .ok (.putfield 15, 3) := by decide +kernel
theorem dX8_clear_5 : decode cX8_clear 5 = .ok (.return_, 1) := by decide +kernel
theorem dX8_hasRoomFor_0 : decode cX8_hasRoomFor 0 = .ok (.aload_n 0, 1) := by decide +kernel
theorem dX8_hasRoomFor_1 : decode cX8_hasRoomFor 1 = .ok (.getfield 15, 3) := by decide +kernel
theorem dX8_hasRoomFor_4 : decode cX8_hasRoomFor 4 = .ok (.iload_n 1, 1) := by decide +kernel
theorem dX8_hasRoomFor_5 : decode cX8_hasRoomFor 5 = .ok (.iadd, 1) := by decide +kernel
theorem dX8_hasRoomFor_6 : decode cX8_hasRoomFor 6 = .ok (.aload_n 0, 1) := by decide +kernel
theorem dX8_hasRoomFor_7 : decode cX8_hasRoomFor 7 = .ok (.getfield 9, 3) := by decide +kernel
theorem dX8_hasRoomFor_10 : decode cX8_hasRoomFor 10 = .ok (.arraylength, 1) := by decide +kernel
theorem dX8_hasRoomFor_11 : decode cX8_hasRoomFor 11 = .ok (.if_icmp .gt 7, 3) := by decide +kernel
theorem dX8_hasRoomFor_14 : decode cX8_hasRoomFor 14 = .ok (.iconst 1, 1) := by decide +kernel
theorem dX8_hasRoomFor_15 : decode cX8_hasRoomFor 15 = .ok (.goto 4, 3) := by decide +kernel
theorem dX8_hasRoomFor_18 : decode cX8_hasRoomFor 18 = .ok (.iconst 0, 1) := by decide +kernel
theorem dX8_hasRoomFor_19 : decode cX8_hasRoomFor 19 = .ok (.ireturn, 1) := by decide +kernel
theorem dX8_addBits_0 : decode cX8_addBits 0 = .ok (.iconst 0, 1) := by decide +kernel
theorem dX8_addBits_1 : decode cX8_addBits 1 = .ok (.istore_n 3, 1) := by decide +kernel
theorem dX8_addBits_2 : decode cX8_addBits 2 = .ok (.iload_n 3, 1) := by decide +kernel
theorem dX8_addBits_3 : decode cX8_addBits 3 = .ok (.iload_n 2, 1) := by decide +kernel
theorem dX8_addBits_4 : decode cX8_addBits 4 = .ok (.if_icmp .ge 45, 3) := by decide +kernel
theorem dX8_addBits_7 : decode cX8_addBits 7 = .ok (.aload_n 0, 1) := by decide +kernel
theorem dX8_addBits_8 : decode cX8_addBits 8 = .ok (.getfield 15, 3) := by decide +kernel
theorem dX8_addBits_11 : decode cX8_addBits 11 = .ok (.aload_n 0, 1) := by decide +kernel
theorem dX8_addBits_12 : decode cX8_addBits 12 = .ok (.getfield 9, 3) := by decide +kernel
theorem dX8_addBits_15 : decode cX8_addBits 15 = .ok (.arraylength, 1) := by decide +kernel
theorem dX8_addBits_16 : decode cX8_addBits 16 = .ok (.if_icmp .ge 33, 3) := by decide +kernel
theorem dX8_addBits_19 : decode cX8_addBits 19 = .ok (.aload_n 0, 1) := by decide +kernel
theorem dX8_addBits_20 : decode cX8_addBits 20 = .ok (.getfield 9, 3) := by decide +kernel
theorem dX8_addBits_23 : decode cX8_addBits 23 = .ok (.aload_n 0, 1) := by decide +kernel
theorem dX8_addBits_24 : decode cX8_addBits 24 = .ok (.getfield 15, 3) := by decide +kernel
theorem dX8_addBits_27 : decode cX8_addBits 27 = .ok (.iload_n 1, 1) := by decide +kernel
theorem dX8_addBits_28 : decode cX8_addBits 28 = .ok (.iload_n 3, 1) := by decide +kernel
theorem dX8_addBits_29 : decode cX8_addBits 29 = .ok (.iushr, 1) := by decide +kernel
theorem dX8_addBits_30 : decode cX8_addBits 30 = .ok (.iconst 1, 1) := by decide +kernel
theorem dX8_addBits_31 : decode cX8_addBits 31 = .ok (.iand, 1) := by decide +kernel
theorem dX8_addBits_32 : decode cX8_addBits 32 = .ok (.iastore, 1) := by decide +kernel
theorem dX8_addBits_33 : decode cX8_addBits 33 = .ok (.aload_n 0, 1) := by decide +kernel
theorem dX8_addBits_34 : decode cX8_addBits 34 = .ok (.dup, 1) := by decide +kernel
theorem dX8_addBits_35 : decode cX8_addBits 35 = .ok (.getfield 15, 3) := by decide +kernel
theorem dX8_addBits_38 : decode cX8_addBits 38 = .ok (.iconst 1, 1) := by decide +kernel
theorem dX8_addBits_39 : decode cX8_addBits 39 = .ok (.iadd, 1) := by decide +kernel
theorem dX8_addBits_40 : decode cX8_addBits 40 = .ok (.putfield 15, 3) := by decide +kernel
theorem dX8_addBits_43 : decode cX8_addBits 43 = .ok (.iinc 3 1, 3) := by decide +kernel
theorem dX8_addBits_46 : decode cX8_addBits 46 = .ok (.goto (-44), 3) := by decide +kernel
theorem dX8_addBits_49 : decode cX8_addBits 49 = .ok (.return_, 1) := by decide +kernel
theorem dX8_addOctet_0 : decode cX8_addOctet 0 = .ok (.aload_n 0, 1) := by decide +kernel
theorem dX8_addOctet_1 : decode cX8_addOctet 1 = .ok (.iload_n 1, 1) := by decide +kernel
theorem dX8_addOctet_2 : decode cX8_addOctet 2 = .ok (.i2l, 1) := by decide +kernel
theorem dX8_addOctet_3 : decode cX8_addOctet 3 = .ok (.iconst 1, 1) := by decide +kernel
theorem dX8_addOctet_4 : decode cX8_addOctet 4 = .ok (.invokestatic 19, 3) := by decide +kernel
theorem dX8_addOctet_7 : decode cX8_addOctet 7 = .ok (.l2i, 1) := by decide +kernel
theorem dX8_addOctet_8 : decode cX8_addOctet 8 = .ok (.bipush 9, 2) := by decide +kernel
theorem dX8_addOctet_10 : decode cX8_addOctet 10 = .ok (.invokevirtual 25, 3) := by decide +kernel
theorem dX8_addOctet_13 : decode cX8_addOctet 13 = .ok (.return_, 1) := by decide +kernel
theorem dX8_addCheck_0 : decode cX8_addCheck 0 = .ok (.aload_n 0, 1) := by decide +kernel
theorem dX8_addCheck_1 : decode cX8_addCheck 1 = .ok (.aload_n 0, 1) := by decide +kernel
theorem dX8_addCheck_2 : decode cX8_addCheck 2 = .ok (.getfield 15, 3) := by decide +kernel
theorem dX8_addCheck_5 : decode cX8_addCheck 5 = .ok (.bipush 9, 2) := by decide +kernel
theorem dX8_addCheck_7 : decode cX8_addCheck 7 = .ok (.idiv, 1) := by decide +kernel
theorem dX8_addCheck_8 : decode cX8_addCheck 8 = .ok (.invokevirtual 29, 3) := by decide +kernel
theorem dX8_addCheck_11 : decode cX8_addCheck 11 = .ok (.istore_n 1, 1) := by decide +kernel
theorem dX8_addCheck_12 : decode cX8_addCheck 12 = .ok (.aload_n 0, 1) := by decide +kernel
theorem dX8_addCheck_13 : decode cX8_addCheck 13 = .ok (.iload_n 1, 1) := by decide +kernel
theorem dX8_addCheck_14 : decode cX8_addCheck 14 = .ok (.invokevirtual 33, 3) := by decide +kernel
theorem dX8_addCheck_17 : decode cX8_addCheck 17 = .ok (.aload_n 0, 1) := by decide +kernel
theorem dX8_addCheck_18 : decode cX8_addCheck 18 = .ok (.iload_n 1, 1) := by decide +kernel
theorem dX8_addCheck_19 : decode cX8_addCheck 19 = .ok (.bipush 8, 2) := by decide +kernel
theorem dX8_addCheck_21 : decode cX8_addCheck 21 = .ok (.iushr, 1) := by decide +kernel
theorem dX8_addCheck_22 : decode cX8_addCheck 22 = .ok (.invokevirtual 33, 3) := by decide +kernel
theorem dX8_addCheck_25 : decode cX8_addCheck 25 = .ok (.return_, 1) := by decide +kernel
theorem dX8_valueAt_0 : decode cX8_valueAt 0 = .ok (.iconst 0, 1) := by decide +kernel
theorem dX8_valueAt_1 : decode cX8_valueAt 1 = .ok (.istore_n 3, 1) := by decide +kernel
theorem dX8_valueAt_2 : decode cX8_valueAt 2 = .ok (.iconst 0, 1) := by decide +kernel
theorem dX8_valueAt_3 : decode cX8_valueAt 3 = .ok (.istore 4, 2) := by decide +kernel
theorem dX8_valueAt_5 : decode cX8_valueAt 5 = .ok (.iload 4, 2) := by decide +kernel
theorem dX8_valueAt_7 : decode cX8_valueAt 7 = .ok (.iload_n 2, 1) := by decide +kernel
theorem dX8_valueAt_8 : decode cX8_valueAt 8 = .ok (.if_icmp .ge 35, 3) := by decide +kernel
theorem dX8_valueAt_11 : decode cX8_valueAt 11 = .ok (.iload_n 1, 1) := by decide +kernel
theorem dX8_valueAt_12 : decode cX8_valueAt 12 = .ok (.iload 4, 2) := by decide +kernel
theorem dX8_valueAt_14 : decode cX8_valueAt 14 = .ok (.iadd, 1) := by decide +kernel
theorem dX8_valueAt_15 : decode cX8_valueAt 15 = .ok (.aload_n 0, 1) := by decide +kernel
theorem dX8_valueAt_16 : decode cX8_valueAt 16 = .ok (.getfield 15, 3) := by decide +kernel
theorem dX8_valueAt_19 : decode cX8_valueAt 19 = .ok (.if_icmp .ge 24, 3) := by decide +kernel
theorem dX8_valueAt_22 : decode cX8_valueAt 22 = .ok (.iload_n 3, 1) := by decide +kernel
theorem dX8_valueAt_23 : decode cX8_valueAt 23 = .ok (.aload_n 0, 1) := by decide +kernel
theorem dX8_valueAt_24 : decode cX8_valueAt 24 = .ok (.getfield 9, 3) := by decide +kernel
theorem dX8_valueAt_27 : decode cX8_valueAt 27 = .ok (.iload_n 1, 1) := by decide +kernel
theorem dX8_valueAt_28 : decode cX8_valueAt 28 = .ok (.iload 4, 2) := by decide +kernel
theorem dX8_valueAt_30 : decode cX8_valueAt 30 = .ok (.iadd, 1) := by decide +kernel
theorem dX8_valueAt_31 : decode cX8_valueAt 31 = .ok (.iaload, 1) := by decide +kernel
theorem dX8_valueAt_32 : decode cX8_valueAt 32 = .ok (.iload 4, 2) := by decide +kernel
theorem dX8_valueAt_34 : decode cX8_valueAt 34 = .ok (.ishl, 1) := by decide +kernel
theorem dX8_valueAt_35 : decode cX8_valueAt 35 = .ok (.ior, 1) := by decide +kernel
theorem dX8_valueAt_36 : decode cX8_valueAt 36 = .ok (.istore_n 3, 1) := by decide +kernel
theorem dX8_valueAt_37 : decode cX8_valueAt 37 = .ok (.iinc 4 1, 3) := by decide +kernel
theorem dX8_valueAt_40 : decode cX8_valueAt 40 = .ok (.goto (-35), 3) := by decide +kernel
theorem dX8_valueAt_43 : decode cX8_valueAt 43 = .ok (.iload_n 3, 1) := by decide +kernel
theorem dX8_valueAt_44 : decode cX8_valueAt 44 = .ok (.ireturn, 1) := by decide +kernel
theorem dX8_beginsWithOctets_0 : decode cX8_beginsWithOctets 0 = .ok (.iconst 0, 1) := by decide +kernel
theorem dX8_beginsWithOctets_1 : decode cX8_beginsWithOctets 1 = .ok (.istore_n 2, 1) := by decide +kernel
theorem dX8_beginsWithOctets_2 : decode cX8_beginsWithOctets 2 = .ok (.iload_n 2, 1) := by decide +kernel
theorem dX8_beginsWithOctets_3 : decode cX8_beginsWithOctets 3 = .ok (.iload_n 1, 1) := by decide +kernel
theorem dX8_beginsWithOctets_4 : decode cX8_beginsWithOctets 4 = .ok (.if_icmp .ge 29, 3) := by decide +kernel
theorem dX8_beginsWithOctets_7 : decode cX8_beginsWithOctets 7 = .ok (.aload_n 0, 1) := by decide +kernel
theorem dX8_beginsWithOctets_8 : decode cX8_beginsWithOctets 8 = .ok (.bipush 9, 2) := by decide +kernel
theorem dX8_beginsWithOctets_10 : decode cX8_beginsWithOctets 10 = .ok (.iload_n 2, 1) := by decide +kernel
theorem dX8_beginsWithOctets_11 : decode cX8_beginsWithOctets 11 = .ok (.imul, 1) := by decide +kernel
theorem dX8_beginsWithOctets_12 : decode cX8_beginsWithOctets 12 = .ok (.bipush 9, 2) := by decide +kernel
theorem dX8_beginsWithOctets_14 : decode cX8_beginsWithOctets 14 = .ok (.invokevirtual 37, 3) := by decide +kernel
theorem dX8_beginsWithOctets_17 : decode cX8_beginsWithOctets 17 = .ok (.invokestatic 41, 3) := by decide +kernel
theorem dX8_beginsWithOctets_20 : decode cX8_beginsWithOctets 20 = .ok (.iconst 2, 1) := by decide +kernel
theorem dX8_beginsWithOctets_21 : decode cX8_beginsWithOctets 21 = .ok (.irem, 1) := by decide +kernel
theorem dX8_beginsWithOctets_22 : decode cX8_beginsWithOctets 22 = .ok (.ifCond .ne 5, 3) := by decide +kernel
theorem dX8_beginsWithOctets_25 : decode cX8_beginsWithOctets 25 = .ok (.iconst 0, 1) := by decide +kernel
theorem dX8_beginsWithOctets_26 : decode cX8_beginsWithOctets 26 = .ok (.ireturn, 1) := by decide +kernel
theorem dX8_beginsWithOctets_27 : decode cX8_beginsWithOctets 27 = .ok (.iinc 2 1, 3) := by decide +kernel
theorem dX8_beginsWithOctets_30 : decode cX8_beginsWithOctets 30 = .ok (.goto (-28), 3) := by decide +kernel
theorem dX8_beginsWithOctets_33 : decode cX8_beginsWithOctets 33 = .ok (.iconst 1, 1) := by decide +kernel
theorem dX8_beginsWithOctets_34 : decode cX8_beginsWithOctets 34 = .ok (.ireturn, 1) := by decide +kernel
theorem dX8_checkOf_0 : decode cX8_checkOf 0 = .ok (.sipush 25443, 3) := by decide +kernel
theorem dX8_checkOf_3 : decode cX8_checkOf 3 = .ok (.istore_n 2, 1) := by decide +kernel
theorem dX8_checkOf_4 : decode cX8_checkOf 4 = .ok (.iconst 0, 1) := by decide +kernel
theorem dX8_checkOf_5 : decode cX8_checkOf 5 = .ok (.istore_n 3, 1) := by decide +kernel
theorem dX8_checkOf_6 : decode cX8_checkOf 6 = .ok (.iload_n 3, 1) := by decide +kernel
theorem dX8_checkOf_7 : decode cX8_checkOf 7 = .ok (.iload_n 1, 1) := by decide +kernel
theorem dX8_checkOf_8 : decode cX8_checkOf 8 = .ok (.if_icmp .ge 24, 3) := by decide +kernel
theorem dX8_checkOf_11 : decode cX8_checkOf 11 = .ok (.iload_n 2, 1) := by decide +kernel
theorem dX8_checkOf_12 : decode cX8_checkOf 12 = .ok (.aload_n 0, 1) := by decide +kernel
theorem dX8_checkOf_13 : decode cX8_checkOf 13 = .ok (.bipush 9, 2) := by decide +kernel
theorem dX8_checkOf_15 : decode cX8_checkOf 15 = .ok (.iload_n 3, 1) := by decide +kernel
theorem dX8_checkOf_16 : decode cX8_checkOf 16 = .ok (.imul, 1) := by decide +kernel
theorem dX8_checkOf_17 : decode cX8_checkOf 17 = .ok (.bipush 8, 2) := by decide +kernel
theorem dX8_checkOf_19 : decode cX8_checkOf 19 = .ok (.invokevirtual 37, 3) := by decide +kernel
theorem dX8_checkOf_22 : decode cX8_checkOf 22 = .ok (.invokestatic 46, 3) := by decide +kernel
theorem dX8_checkOf_25 : decode cX8_checkOf 25 = .ok (.istore_n 2, 1) := by decide +kernel
theorem dX8_checkOf_26 : decode cX8_checkOf 26 = .ok (.iinc 3 1, 3) := by decide +kernel
theorem dX8_checkOf_29 : decode cX8_checkOf 29 = .ok (.goto (-23), 3) := by decide +kernel
theorem dX8_checkOf_32 : decode cX8_checkOf 32 = .ok (.iload_n 2, 1) := by decide +kernel
theorem dX8_checkOf_33 : decode cX8_checkOf 33 = .ok (.ireturn, 1) := by decide +kernel
end
section
theorem dX9_init_0 : decode cX9_init 0 = .ok (.aload_n 0, 1) := by decide +kernel
theorem dX9_init_1 : decode cX9_init 1 = .ok (.invokespecial 3, 3) := by decide +kernel
theorem dX9_init_4 : decode cX9_init 4 = .ok (.aload_n 0, 1) := by decide +kernel
theorem dX9_init_5 : decode cX9_init 5 = .ok (.iconst 0, 1) := by decide +kernel
theorem dX9_init_6 : decode cX9_init 6 = .ok (.putfield 9, 3) := by decide +kernel
theorem dX9_init_9 : decode cX9_init 9 = .ok (.aload_n 0, 1) := by decide +kernel
theorem dX9_init_10 : decode cX9_init 10 = .ok (.iconst 0, 1) := by decide +kernel
theorem dX9_init_11 : decode cX9_init 11 = .ok (.putfield 15, 3) := by decide +kernel
theorem dX9_init_14 : decode cX9_init 14 = .ok (.aload_n 0, 1) := by decide +kernel
theorem dX9_init_15 : decode cX9_init 15 = .ok (.iconst 1, 1) := by decide +kernel
theorem dX9_init_16 : decode cX9_init 16 = .ok (.putfield 19, 3) := by decide +kernel
theorem dX9_init_19 : decode cX9_init 19 = .ok (.aload_n 0, 1) := by decide +kernel
theorem dX9_init_20 : decode cX9_init 20 = .ok (.iload_n 1, 1) := by decide +kernel
theorem dX9_init_21 : decode cX9_init 21 = .ok (.iconst 1, 1) := by decide +kernel
theorem dX9_init_22 : decode cX9_init 22 = .ok (.isub, 1) := by decide +kernel
theorem dX9_init_23 : decode cX9_init 23 = .ok (.iconst 3, 1) := by decide +kernel
theorem dX9_init_24 : decode cX9_init 24 = .ok (.idiv, 1) := by decide +kernel
theorem dX9_init_25 : decode cX9_init 25 = .ok (.putfield 22, 3) := by decide +kernel
theorem dX9_init_28 : decode cX9_init 28 = .ok (.aload_n 0, 1) := by decide +kernel
theorem dX9_init_29 : decode cX9_init 29 = .ok (.iconst 3, 1) := by decide +kernel
theorem dX9_init_30 : decode cX9_init 30 = .ok (.newarray .long, 2) := by decide +kernel
theorem dX9_init_32 : decode cX9_init 32 = .ok (.putfield 25, 3) := by decide +kernel
theorem dX9_init_35 : decode cX9_init 35 = .ok (.iconst 0, 1) := by decide +kernel
theorem dX9_init_36 : decode cX9_init 36 = .ok (.istore 5, 2) := by decide +kernel
theorem dX9_init_38 : decode cX9_init 38 = .ok (.iload 5, 2) := by decide +kernel
theorem dX9_init_40 : decode cX9_init 40 = .ok (.aload_n 0, 1) := by decide +kernel
theorem dX9_init_41 : decode cX9_init 41 = .ok (.getfield 22, 3) := by decide +kernel
theorem dX9_init_44 : decode cX9_init 44 = .ok (.if_icmp .ge 41, 3) := by decide +kernel
theorem dX9_init_47 : decode cX9_init 47 = .ok (.aload_n 0, 1) := by decide +kernel
theorem dX9_init_48 : decode cX9_init 48 = .ok (.getfield 25, 3) := by decide +kernel
theorem dX9_init_51 : decode cX9_init 51 = .ok (.iload 5, 2) := by decide +kernel
theorem dX9_init_53 : decode cX9_init 53 = .ok (.iload 5, 2) := by decide +kernel
theorem dX9_init_55 : decode cX9_init 55 = .ok (.iload 5, 2) := by decide +kernel
theorem dX9_init_57 : decode cX9_init 57 = .ok (.aload_n 0, 1) := by decide +kernel
theorem dX9_init_58 : decode cX9_init 58 = .ok (.getfield 22, 3) := by decide +kernel
theorem dX9_init_61 : decode cX9_init 61 = .ok (.iconst 1, 1) := by decide +kernel
theorem dX9_init_62 : decode cX9_init 62 = .ok (.isub, 1) := by decide +kernel
theorem dX9_init_63 : decode cX9_init 63 = .ok (.if_icmp .ne 7, 3) := by decide +kernel
theorem dX9_init_66 : decode cX9_init 66 = .ok (.iconst 1, 1) := by decide +kernel
theorem dX9_init_67 : decode cX9_init 67 = .ok (.goto 4, 3) := by decide +kernel
theorem dX9_init_70 : decode cX9_init 70 = .ok (.iconst 0, 1) := by decide +kernel
theorem dX9_init_71 : decode cX9_init 71 = .ok (.iload_n 2, 1) := by decide +kernel
theorem dX9_init_72 : decode cX9_init 72 = .ok (.iload_n 3, 1) := by decide +kernel
theorem dX9_init_73 : decode cX9_init 73 = .ok (.iload 4, 2) := by decide +kernel
theorem dX9_init_75 : decode cX9_init 75 = .ok (.invokestatic 29, 3) := by decide +kernel
theorem dX9_init_78 : decode cX9_init 78 = .ok (.lastore, 1) := by decide +kernel
theorem dX9_init_79 : decode cX9_init 79 = .ok (.iinc 5 1, 3) := by decide +kernel
theorem dX9_init_82 : decode cX9_init 82 = .ok (.goto (-44), 3) := by decide +kernel
theorem dX9_init_85 : decode cX9_init 85 = .ok (.return_, 1) := by decide +kernel
theorem dX9_shownAt_0 : decode cX9_shownAt 0 = .ok (.iload_n 1, 1) := by decide +kernel
theorem dX9_shownAt_1 : decode cX9_shownAt 1 = .ok (.ifCond .eq 7, 3) := by decide +kernel
theorem dX9_shownAt_4 : decode cX9_shownAt 4 = .ok (.lconst 0, 1) := by decide +kernel
theorem dX9_shownAt_5 : decode cX9_shownAt 5 = .ok (.goto 6, 3) := by decide +kernel
theorem dX9_shownAt_8 : decode cX9_shownAt 8 = .ok (.ldc2_w 33, 3) := by decide +kernel
theorem dX9_shownAt_11 : decode cX9_shownAt 11 = .ok (.lstore 5, 2) := by decide +kernel
theorem dX9_shownAt_13 : decode cX9_shownAt 13 = .ok (.iload_n 1, 1) := by decide +kernel
theorem dX9_shownAt_14 : decode cX9_shownAt 14 = .ok (.ifCond .eq 7, 3) := by decide +kernel
theorem dX9_shownAt_17 : decode cX9_shownAt 17 = .ok (.iconst 0, 1) := by decide +kernel
theorem dX9_shownAt_18 : decode cX9_shownAt 18 = .ok (.goto 4, 3) := by decide +kernel
theorem dX9_shownAt_21 : decode cX9_shownAt 21 = .ok (.iconst 1, 1) := by decide +kernel
theorem dX9_shownAt_22 : decode cX9_shownAt 22 = .ok (.istore 7, 2) := by decide +kernel
theorem dX9_shownAt_24 : decode cX9_shownAt 24 = .ok (.iconst 0, 1) := by decide +kernel
theorem dX9_shownAt_25 : decode cX9_shownAt 25 = .ok (.istore 8, 2) := by decide +kernel
theorem dX9_shownAt_27 : decode cX9_shownAt 27 = .ok (.iload 7, 2) := by decide +kernel
theorem dX9_shownAt_29 : decode cX9_shownAt 29 = .ok (.iload 8, 2) := by decide +kernel
theorem dX9_shownAt_31 : decode cX9_shownAt 31 = .ok (.iadd, 1) := by decide +kernel
theorem dX9_shownAt_32 : decode cX9_shownAt 32 = .ok (.iconst 4, 1) := by decide +kernel
theorem dX9_shownAt_33 : decode cX9_shownAt 33 = .ok (.if_icmp .ge 37, 3) := by decide +kernel
theorem dX9_shownAt_36 : decode cX9_shownAt 36 = .ok (.lload 5, 2) := by decide +kernel
theorem dX9_shownAt_38 : decode cX9_shownAt 38 = .ok (.iconst 3, 1) := by decide +kernel
theorem dX9_shownAt_39 : decode cX9_shownAt 39 = .ok (.iload_n 0, 1) := by decide +kernel
theorem dX9_shownAt_40 : decode cX9_shownAt 40 = .ok (.imul, 1) := by decide +kernel
theorem dX9_shownAt_41 : decode cX9_shownAt 41 = .ok (.iload 8, 2) := by decide +kernel
theorem dX9_shownAt_43 : decode cX9_shownAt 43 = .ok (.iadd, 1) := by decide +kernel
theorem dX9_shownAt_44 : decode cX9_shownAt 44 = .ok (.iload_n 2, 1) := by decide +kernel
theorem dX9_shownAt_45 : decode cX9_shownAt 45 = .ok (.iload_n 3, 1) := by decide +kernel
theorem dX9_shownAt_46 : decode cX9_shownAt 46 = .ok (.iload 4, 2) := by decide +kernel
theorem dX9_shownAt_48 : decode cX9_shownAt 48 = .ok (.invokestatic 35, 3) := by decide +kernel
theorem dX9_shownAt_51 : decode cX9_shownAt 51 = .ok (.i2l, 1) := by decide +kernel
theorem dX9_shownAt_52 : decode cX9_shownAt 52 = .ok (.bipush 8, 2) := by decide +kernel
theorem dX9_shownAt_54 : decode cX9_shownAt 54 = .ok (.iload 7, 2) := by decide +kernel
theorem dX9_shownAt_56 : decode cX9_shownAt 56 = .ok (.iload 8, 2) := by decide +kernel
theorem dX9_shownAt_58 : decode cX9_shownAt 58 = .ok (.iadd, 1) := by decide +kernel
theorem dX9_shownAt_59 : decode cX9_shownAt 59 = .ok (.imul, 1) := by decide +kernel
theorem dX9_shownAt_60 : decode cX9_shownAt 60 = .ok (.lshl, 1) := by decide +kernel
theorem dX9_shownAt_61 : decode cX9_shownAt 61 = .ok (.lor, 1) := by decide +kernel
theorem dX9_shownAt_62 : decode cX9_shownAt 62 = .ok (.lstore 5, 2) := by decide +kernel
theorem dX9_shownAt_64 : decode cX9_shownAt 64 = .ok (.iinc 8 1, 3) := by decide +kernel
theorem dX9_shownAt_67 : decode cX9_shownAt 67 = .ok (.goto (-40), 3) := by decide +kernel
theorem dX9_shownAt_70 : decode cX9_shownAt 70 = .ok (.lload 5, 2) := by decide +kernel
theorem dX9_shownAt_72 : decode cX9_shownAt 72 = .ok (.lload 5, 2) := by decide +kernel
theorem dX9_shownAt_74 : decode cX9_shownAt 74 = .ok (.bipush 8, 2) := by decide +kernel
theorem dX9_shownAt_76 : decode cX9_shownAt 76 = .ok (.lushr, 1) := by decide +kernel
theorem dX9_shownAt_77 : decode cX9_shownAt 77 = .ok (.lxor, 1) := by decide +kernel
theorem dX9_shownAt_78 : decode cX9_shownAt 78 = .ok (.lload 5, 2) := by decide +kernel
theorem dX9_shownAt_80 : decode cX9_shownAt 80 = .ok (.bipush 16, 2) := by decide +kernel
theorem dX9_shownAt_82 : decode cX9_shownAt 82 = .ok (.lushr, 1) := by decide +kernel
theorem dX9_shownAt_83 : decode cX9_shownAt 83 = .ok (.lxor, 1) := by decide +kernel
theorem dX9_shownAt_84 : decode cX9_shownAt 84 = .ok (.lload 5, 2) := by decide +kernel
theorem dX9_shownAt_86 : decode cX9_shownAt 86 = .ok (.bipush 24, 2) := by decide +kernel
theorem dX9_shownAt_88 : decode cX9_shownAt 88 = .ok (.lushr, 1) := by decide +kernel
theorem dX9_shownAt_89 : decode cX9_shownAt 89 = .ok (.lxor, 1) := by decide +kernel
theorem dX9_shownAt_90 : decode cX9_shownAt 90 = .ok (.ldc2_w 39, 3) := by decide +kernel
theorem dX9_shownAt_93 : decode cX9_shownAt 93 = .ok (.land, 1) := by decide +kernel
theorem dX9_shownAt_94 : decode cX9_shownAt 94 = .ok (.lstore 8, 2) := by decide +kernel
theorem dX9_shownAt_96 : decode cX9_shownAt 96 = .ok (.lload 5, 2) := by decide +kernel
theorem dX9_shownAt_98 : decode cX9_shownAt 98 = .ok (.lload 8, 2) := by decide +kernel
theorem dX9_shownAt_100 : decode cX9_shownAt 100 = .ok (.bipush 32, 2) := by decide +kernel
theorem dX9_shownAt_102 : decode cX9_shownAt 102 = .ok (.lshl, 1) := by decide +kernel
theorem dX9_shownAt_103 : decode cX9_shownAt 103 = .ok (.lor, 1) := by decide +kernel
theorem dX9_shownAt_104 : decode cX9_shownAt 104 = .ok (.lreturn, 1) := by decide +kernel
theorem dX9_numberByte_0 : decode cX9_numberByte 0 = .ok (.iload_n 0, 1) := by decide +kernel
theorem dX9_numberByte_1 : decode cX9_numberByte 1 = .ok (.iconst 4, 1) := by decide +kernel
theorem dX9_numberByte_2 : decode cX9_numberByte 2 = .ok (.if_icmp .ge 7, 3) := by decide +kernel
theorem dX9_numberByte_5 : decode cX9_numberByte 5 = .ok (.iload_n 1, 1) := by decide +kernel
theorem dX9_numberByte_6 : decode cX9_numberByte 6 = .ok (.goto 14, 3) := by decide +kernel
theorem dX9_numberByte_9 : decode cX9_numberByte 9 = .ok (.iload_n 0, 1) := by decide +kernel
theorem dX9_numberByte_10 : decode cX9_numberByte 10 = .ok (.bipush 8, 2) := by decide +kernel
theorem dX9_numberByte_12 : decode cX9_numberByte 12 = .ok (.if_icmp .ge 7, 3) := by decide +kernel
theorem dX9_numberByte_15 : decode cX9_numberByte 15 = .ok (.iload_n 2, 1) := by decide +kernel
theorem dX9_numberByte_16 : decode cX9_numberByte 16 = .ok (.goto 4, 3) := by decide +kernel
theorem dX9_numberByte_19 : decode cX9_numberByte 19 = .ok (.iload_n 3, 1) := by decide +kernel
theorem dX9_numberByte_20 : decode cX9_numberByte 20 = .ok (.istore 4, 2) := by decide +kernel
theorem dX9_numberByte_22 : decode cX9_numberByte 22 = .ok (.iload 4, 2) := by decide +kernel
theorem dX9_numberByte_24 : decode cX9_numberByte 24 = .ok (.bipush 24, 2) := by decide +kernel
theorem dX9_numberByte_26 : decode cX9_numberByte 26 = .ok (.bipush 8, 2) := by decide +kernel
theorem dX9_numberByte_28 : decode cX9_numberByte 28 = .ok (.iload_n 0, 1) := by decide +kernel
theorem dX9_numberByte_29 : decode cX9_numberByte 29 = .ok (.iconst 4, 1) := by decide +kernel
theorem dX9_numberByte_30 : decode cX9_numberByte 30 = .ok (.irem, 1) := by decide +kernel
theorem dX9_numberByte_31 : decode cX9_numberByte 31 = .ok (.imul, 1) := by decide +kernel
theorem dX9_numberByte_32 : decode cX9_numberByte 32 = .ok (.isub, 1) := by decide +kernel
theorem dX9_numberByte_33 : decode cX9_numberByte 33 = .ok (.iushr, 1) := by decide +kernel
theorem dX9_numberByte_34 : decode cX9_numberByte 34 = .ok (.sipush 255, 3) := by decide +kernel
theorem dX9_numberByte_37 : decode cX9_numberByte 37 = .ok (.iand, 1) := by decide +kernel
theorem dX9_numberByte_38 : decode cX9_numberByte 38 = .ok (.ireturn, 1) := by decide +kernel
theorem dX9_looksUnfinished_0 : decode cX9_looksUnfinished 0 = .ok (.aload_n 0, 1) := by decide +kernel
theorem dX9_looksUnfinished_1 : decode cX9_looksUnfinished 1 = .ok (.getfield 25, 3) := by decide +kernel
theorem dX9_looksUnfinished_4 : decode cX9_looksUnfinished 4 = .ok (.aload_n 0, 1) := by decide +kernel
theorem dX9_looksUnfinished_5 : decode cX9_looksUnfinished 5 = .ok (.getfield 22, 3) := by decide +kernel
theorem dX9_looksUnfinished_8 : decode cX9_looksUnfinished 8 = .ok (.iconst 1, 1) := by decide +kernel
theorem dX9_looksUnfinished_9 : decode cX9_looksUnfinished 9 = .ok (.isub, 1) := by decide +kernel
theorem dX9_looksUnfinished_10 : decode cX9_looksUnfinished 10 = .ok (.laload, 1) := by decide +kernel
theorem dX9_looksUnfinished_11 : decode cX9_looksUnfinished 11 = .ok (.ldc2_w 39, 3) := by decide +kernel
theorem dX9_looksUnfinished_14 : decode cX9_looksUnfinished 14 = .ok (.land, 1) := by decide +kernel
theorem dX9_looksUnfinished_15 : decode cX9_looksUnfinished 15 = .ok (.ldc2_w 33, 3) := by decide +kernel
theorem dX9_looksUnfinished_18 : decode cX9_looksUnfinished 18 = .ok (.lcmp, 1) := by decide +kernel
theorem dX9_looksUnfinished_19 : decode cX9_looksUnfinished 19 = .ok (.ifCond .ne 7, 3) := by decide +kernel
theorem dX9_looksUnfinished_22 : decode cX9_looksUnfinished 22 = .ok (.iconst 1, 1) := by decide +kernel
theorem dX9_looksUnfinished_23 : decode cX9_looksUnfinished 23 = .ok (.goto 4, 3) := by decide +kernel
theorem dX9_looksUnfinished_26 : decode cX9_looksUnfinished 26 = .ok (.iconst 0, 1) := by decide +kernel
theorem dX9_looksUnfinished_27 : decode cX9_looksUnfinished 27 = .ok (.ireturn, 1) := by decide +kernel
theorem dX9_hasNumberOf_0 : decode cX9_hasNumberOf 0 = .ok (.iconst 0, 1) := by decide +kernel
theorem dX9_hasNumberOf_1 : decode cX9_hasNumberOf 1 = .ok (.istore_n 2, 1) := by decide +kernel
theorem dX9_hasNumberOf_2 : decode cX9_hasNumberOf 2 = .ok (.iload_n 2, 1) := by decide +kernel
theorem dX9_hasNumberOf_3 : decode cX9_hasNumberOf 3 = .ok (.iconst 3, 1) := by decide +kernel
theorem dX9_hasNumberOf_4 : decode cX9_hasNumberOf 4 = .ok (.if_icmp .ge 27, 3) := by decide +kernel
theorem dX9_hasNumberOf_7 : decode cX9_hasNumberOf 7 = .ok (.aload_n 0, 1) := by decide +kernel
theorem dX9_hasNumberOf_8 : decode cX9_hasNumberOf 8 = .ok (.getfield 25, 3) := by decide +kernel
theorem dX9_hasNumberOf_11 : decode cX9_hasNumberOf 11 = .ok (.iload_n 2, 1) := by decide +kernel
theorem dX9_hasNumberOf_12 : decode cX9_hasNumberOf 12 = .ok (.laload, 1) := by decide +kernel
theorem dX9_hasNumberOf_13 : decode cX9_hasNumberOf 13 = .ok (.aload_n 1, 1) := by decide +kernel
theorem dX9_hasNumberOf_14 : decode cX9_hasNumberOf 14 = .ok (.getfield 25, 3) := by decide +kernel
theorem dX9_hasNumberOf_17 : decode cX9_hasNumberOf 17 = .ok (.iload_n 2, 1) := by decide +kernel
theorem dX9_hasNumberOf_18 : decode cX9_hasNumberOf 18 = .ok (.laload, 1) := by decide +kernel
theorem dX9_hasNumberOf_19 : decode cX9_hasNumberOf 19 = .ok (.lcmp, 1) := by decide +kernel
theorem dX9_hasNumberOf_20 : decode cX9_hasNumberOf 20 = .ok (.ifCond .eq 5, 3) := by decide +kernel
theorem dX9_hasNumberOf_23 : decode cX9_hasNumberOf 23 = .ok (.iconst 0, 1) := by decide +kernel
theorem dX9_hasNumberOf_24 : decode cX9_hasNumberOf 24 = .ok (.ireturn, 1) := by decide +kernel
theorem dX9_hasNumberOf_25 : decode cX9_hasNumberOf 25 = .ok (.iinc 2 1, 3) := by decide +kernel
theorem dX9_hasNumberOf_28 : decode cX9_hasNumberOf 28 = .ok (.goto (-26), 3) := by decide +kernel
theorem dX9_hasNumberOf_31 : decode cX9_hasNumberOf 31 = .ok (.aload_n 0, 1) := by decide +kernel
theorem dX9_hasNumberOf_32 : decode cX9_hasNumberOf 32 = .ok (.getfield 22, 3) := by decide +kernel
theorem dX9_hasNumberOf_35 : decode cX9_hasNumberOf 35 = .ok (.aload_n 1, 1) := by decide +kernel
theorem dX9_hasNumberOf_36 : decode cX9_hasNumberOf 36 = .ok (.getfield 22, 3) := by decide +kernel
theorem dX9_hasNumberOf_39 : decode cX9_hasNumberOf 39 = .ok (.if_icmp .ne 7, 3) := by decide +kernel
theorem dX9_hasNumberOf_42 : decode cX9_hasNumberOf 42 = .ok (.iconst 1, 1) := by decide +kernel
theorem dX9_hasNumberOf_43 : decode cX9_hasNumberOf 43 = .ok (.goto 4, 3) := by decide +kernel
theorem dX9_hasNumberOf_46 : decode cX9_hasNumberOf 46 = .ok (.iconst 0, 1) := by decide +kernel
theorem dX9_hasNumberOf_47 : decode cX9_hasNumberOf 47 = .ok (.ireturn, 1) := by decide +kernel
theorem dX9_move_0 : decode cX9_move 0 = .ok (.aload_n 0, 1) := by decide +kernel
theorem dX9_move_1 : decode cX9_move 1 = .ok (.getfield 9, 3) := by decide +kernel
theorem dX9_move_4 : decode cX9_move 4 = .ok (.iload_n 1, 1) := by decide +kernel
theorem dX9_move_5 : decode cX9_move 5 = .ok (.if_icmp .ne 5, 3) := by decide +kernel
theorem dX9_move_8 : decode cX9_move 8 = .ok (.iconst 0, 1) := by decide +kernel
theorem dX9_move_9 : decode cX9_move 9 = .ok (.ireturn, 1) := by decide +kernel
theorem dX9_move_10 : decode cX9_move 10 = .ok (.aload_n 0, 1) := by decide +kernel
theorem dX9_move_11 : decode cX9_move 11 = .ok (.iload_n 1, 1) := by decide +kernel
theorem dX9_move_12 : decode cX9_move 12 = .ok (.putfield 9, 3) := by decide +kernel
theorem dX9_move_15 : decode cX9_move 15 = .ok (.aload_n 0, 1) := by decide +kernel
theorem dX9_move_16 : decode cX9_move 16 = .ok (.iload_n 2, 1) := by decide +kernel
theorem dX9_move_17 : decode cX9_move 17 = .ok (.invokevirtual 41, 3) := by decide +kernel
theorem dX9_move_20 : decode cX9_move 20 = .ok (.iconst 1, 1) := by decide +kernel
theorem dX9_move_21 : decode cX9_move 21 = .ok (.ireturn, 1) := by decide +kernel
theorem dX9_beginAnew_0 : decode cX9_beginAnew 0 = .ok (.aload_n 0, 1) := by decide +kernel
theorem dX9_beginAnew_1 : decode cX9_beginAnew 1 = .ok (.iload_n 1, 1) := by decide +kernel
theorem dX9_beginAnew_2 : decode cX9_beginAnew 2 = .ok (.ifCond .eq 14, 3) := by decide +kernel
theorem dX9_beginAnew_5 : decode cX9_beginAnew 5 = .ok (.aload_n 0, 1) := by decide +kernel
theorem dX9_beginAnew_6 : decode cX9_beginAnew 6 = .ok (.getfield 9, 3) := by decide +kernel
theorem dX9_beginAnew_9 : decode cX9_beginAnew 9 = .ok (.ifCond .ne 7, 3) := by decide +kernel
theorem dX9_beginAnew_12 : decode cX9_beginAnew 12 = .ok (.iconst 1, 1) := by decide +kernel
theorem dX9_beginAnew_13 : decode cX9_beginAnew 13 = .ok (.goto 4, 3) := by decide +kernel
theorem dX9_beginAnew_16 : decode cX9_beginAnew 16 = .ok (.iconst 0, 1) := by decide +kernel
theorem dX9_beginAnew_17 : decode cX9_beginAnew 17 = .ok (.putfield 15, 3) := by decide +kernel
theorem dX9_beginAnew_20 : decode cX9_beginAnew 20 = .ok (.return_, 1) := by decide +kernel
theorem dX9_stateAndLevel_0 : decode cX9_stateAndLevel 0 = .ok (.aload_n 0, 1) := by decide +kernel
theorem dX9_stateAndLevel_1 : decode cX9_stateAndLevel 1 = .ok (.getfield 15, 3) := by decide +kernel
theorem dX9_stateAndLevel_4 : decode cX9_stateAndLevel 4 = .ok (.iconst 2, 1) := by decide +kernel
theorem dX9_stateAndLevel_5 : decode cX9_stateAndLevel 5 = .ok (.if_icmp .eq 11, 3) := by decide +kernel
theorem dX9_stateAndLevel_8 : decode cX9_stateAndLevel 8 = .ok (.aload_n 0, 1) := by decide +kernel
theorem dX9_stateAndLevel_9 : decode cX9_stateAndLevel 9 = .ok (.getfield 15, 3) := by decide +kernel
theorem dX9_stateAndLevel_12 : decode cX9_stateAndLevel 12 = .ok (.iconst 5, 1) := by decide +kernel
theorem dX9_stateAndLevel_13 : decode cX9_stateAndLevel 13 = .ok (.if_icmp .ne 7, 3) := by decide +kernel
theorem dX9_stateAndLevel_16 : decode cX9_stateAndLevel 16 = .ok (.iconst 1, 1) := by decide +kernel
theorem dX9_stateAndLevel_17 : decode cX9_stateAndLevel 17 = .ok (.goto 4, 3) := by decide +kernel
theorem dX9_stateAndLevel_20 : decode cX9_stateAndLevel 20 = .ok (.iconst 0, 1) := by decide +kernel
theorem dX9_stateAndLevel_21 : decode cX9_stateAndLevel 21 = .ok (.istore_n 1, 1) := by decide +kernel
theorem dX9_stateAndLevel_22 : decode cX9_stateAndLevel 22 = .ok (.iload_n 1, 1) := by decide +kernel
theorem dX9_stateAndLevel_23 : decode cX9_stateAndLevel 23 = .ok (.ifCond .eq 20, 3) := by decide +kernel
theorem dX9_stateAndLevel_26 : decode cX9_stateAndLevel 26 = .ok (.aload_n 0, 1) := by decide +kernel
theorem dX9_stateAndLevel_27 : decode cX9_stateAndLevel 27 = .ok (.getfield 15, 3) := by decide +kernel
theorem dX9_stateAndLevel_30 : decode cX9_stateAndLevel 30 = .ok (.bipush 10, 2) := by decide +kernel
theorem dX9_stateAndLevel_32 : decode cX9_stateAndLevel 32 = .ok (.aload_n 0, 1) := by decide +kernel
theorem dX9_stateAndLevel_33 : decode cX9_stateAndLevel 33 = .ok (.getfield 19, 3) := by decide +kernel
theorem dX9_stateAndLevel_36 : decode cX9_stateAndLevel 36 = .ok (.iconst 1, 1) := by decide +kernel
theorem dX9_stateAndLevel_37 : decode cX9_stateAndLevel 37 = .ok (.isub, 1) := by decide +kernel
theorem dX9_stateAndLevel_38 : decode cX9_stateAndLevel 38 = .ok (.imul, 1) := by decide +kernel
theorem dX9_stateAndLevel_39 : decode cX9_stateAndLevel 39 = .ok (.iadd, 1) := by decide +kernel
theorem dX9_stateAndLevel_40 : decode cX9_stateAndLevel 40 = .ok (.goto 7, 3) := by decide +kernel
theorem dX9_stateAndLevel_43 : decode cX9_stateAndLevel 43 = .ok (.aload_n 0, 1) := by decide +kernel
theorem dX9_stateAndLevel_44 : decode cX9_stateAndLevel 44 = .ok (.getfield 15, 3) := by decide +kernel
theorem dX9_stateAndLevel_47 : decode cX9_stateAndLevel 47 = .ok (.ireturn, 1) := by decide +kernel
theorem dX9_hear_0 : decode cX9_hear 0 = .ok (.aload_n 0, 1) := by decide +kernel
theorem dX9_hear_1 : decode cX9_hear 1 = .ok (.getfield 15, 3) := by decide +kernel
theorem dX9_hear_4 : decode cX9_hear 4 = .ok (.tableswitch 145 1 7 #[44, 108, 114, 86, 108, 114, 120], 44) := by decide +kernel
theorem dX9_hear_48 : decode cX9_hear 48 = .ok (.aload_n 1, 1) := by decide +kernel
theorem dX9_hear_49 : decode cX9_hear 49 = .ok (.getfield 45, 3) := by decide +kernel
theorem dX9_hear_52 : decode cX9_hear 52 = .ok (.getstatic 51, 3) := by decide +kernel
theorem dX9_hear_55 : decode cX9_hear 55 = .ok (.if_acmp .eq 13, 3) := by decide +kernel
theorem dX9_hear_58 : decode cX9_hear 58 = .ok (.aload_n 1, 1) := by decide +kernel
theorem dX9_hear_59 : decode cX9_hear 59 = .ok (.getfield 45, 3) := by decide +kernel
theorem dX9_hear_62 : decode cX9_hear 62 = .ok (.getstatic 56, 3) := by decide +kernel
theorem dX9_hear_65 : decode cX9_hear 65 = .ok (.if_acmp .ne 7, 3) := by decide +kernel
theorem dX9_hear_68 : decode cX9_hear 68 = .ok (.iconst 1, 1) := by decide +kernel
theorem dX9_hear_69 : decode cX9_hear 69 = .ok (.goto 4, 3) := by decide +kernel
theorem dX9_hear_72 : decode cX9_hear 72 = .ok (.iconst 0, 1) := by decide +kernel
theorem dX9_hear_73 : decode cX9_hear 73 = .ok (.istore_n 2, 1) := by decide +kernel
theorem dX9_hear_74 : decode cX9_hear 74 = .ok (.iload_n 2, 1) := by decide +kernel
theorem dX9_hear_75 : decode cX9_hear 75 = .ok (.ifCond .eq 11, 3) := by decide +kernel
theorem dX9_hear_78 : decode cX9_hear 78 = .ok (.aload_n 0, 1) := by decide +kernel
theorem dX9_hear_79 : decode cX9_hear 79 = .ok (.iconst 2, 1) := by decide +kernel
theorem dX9_hear_80 : decode cX9_hear 80 = .ok (.invokevirtual 59, 3) := by decide +kernel
theorem dX9_hear_83 : decode cX9_hear 83 = .ok (.goto 6, 3) := by decide +kernel
theorem dX9_hear_86 : decode cX9_hear 86 = .ok (.getstatic 63, 3) := by decide +kernel
theorem dX9_hear_89 : decode cX9_hear 89 = .ok (.areturn, 1) := by decide +kernel
theorem dX9_hear_90 : decode cX9_hear 90 = .ok (.aload_n 1, 1) := by decide +kernel
theorem dX9_hear_91 : decode cX9_hear 91 = .ok (.getfield 45, 3) := by decide +kernel
theorem dX9_hear_94 : decode cX9_hear 94 = .ok (.getstatic 56, 3) := by decide +kernel
theorem dX9_hear_97 : decode cX9_hear 97 = .ok (.if_acmp .ne 11, 3) := by decide +kernel
theorem dX9_hear_100 : decode cX9_hear 100 = .ok (.aload_n 0, 1) := by decide +kernel
theorem dX9_hear_101 : decode cX9_hear 101 = .ok (.iconst 5, 1) := by decide +kernel
theorem dX9_hear_102 : decode cX9_hear 102 = .ok (.invokevirtual 59, 3) := by decide +kernel
theorem dX9_hear_105 : decode cX9_hear 105 = .ok (.goto 6, 3) := by decide +kernel
theorem dX9_hear_108 : decode cX9_hear 108 = .ok (.getstatic 63, 3) := by decide +kernel
theorem dX9_hear_111 : decode cX9_hear 111 = .ok (.areturn, 1) := by decide +kernel
theorem dX9_hear_112 : decode cX9_hear 112 = .ok (.aload_n 0, 1) := by decide +kernel
theorem dX9_hear_113 : decode cX9_hear 113 = .ok (.aload_n 1, 1) := by decide +kernel
theorem dX9_hear_114 : decode cX9_hear 114 = .ok (.invokevirtual 69, 3) := by decide +kernel
theorem dX9_hear_117 : decode cX9_hear 117 = .ok (.areturn, 1) := by decide +kernel
theorem dX9_hear_118 : decode cX9_hear 118 = .ok (.aload_n 0, 1) := by decide +kernel
theorem dX9_hear_119 : decode cX9_hear 119 = .ok (.aload_n 1, 1) := by decide +kernel
theorem dX9_hear_120 : decode cX9_hear 120 = .ok (.invokevirtual 73, 3) := by decide +kernel
theorem dX9_hear_123 : decode cX9_hear 123 = .ok (.areturn, 1) := by decide +kernel
theorem dX9_hear_124 : decode cX9_hear 124 = .ok (.aload_n 1, 1) := by decide +kernel
theorem dX9_hear_125 : decode cX9_hear 125 = .ok (.getfield 45, 3) := by decide +kernel
theorem dX9_hear_128 : decode cX9_hear 128 = .ok (.getstatic 76, 3) := by decide +kernel
theorem dX9_hear_131 : decode cX9_hear 131 = .ok (.if_acmp .ne 14, 3) := by decide +kernel
theorem dX9_hear_134 : decode cX9_hear 134 = .ok (.aload_n 0, 1) := by decide +kernel
theorem dX9_hear_135 : decode cX9_hear 135 = .ok (.iconst 4, 1) := by decide +kernel
theorem dX9_hear_136 : decode cX9_hear 136 = .ok (.getstatic 79, 3) := by decide +kernel
theorem dX9_hear_139 : decode cX9_hear 139 = .ok (.invokevirtual 82, 3) := by decide +kernel
theorem dX9_hear_142 : decode cX9_hear 142 = .ok (.goto 6, 3) := by decide +kernel
theorem dX9_hear_145 : decode cX9_hear 145 = .ok (.getstatic 63, 3) := by decide +kernel
theorem dX9_hear_148 : decode cX9_hear 148 = .ok (.areturn, 1) := by decide +kernel
theorem dX9_hear_149 : decode cX9_hear 149 = .ok (.getstatic 63, 3) := by decide +kernel
theorem dX9_hear_152 : decode cX9_hear 152 = .ok (.areturn, 1) := by decide +kernel
theorem dX9_become_0 : decode cX9_become 0 = .ok (.aload_n 0, 1) := by decide +kernel
theorem dX9_become_1 : decode cX9_become 1 = .ok (.iload_n 1, 1) := by decide +kernel
theorem dX9_become_2 : decode cX9_become 2 = .ok (.putfield 15, 3) := by decide +kernel
theorem dX9_become_5 : decode cX9_become 5 = .ok (.aload_n 2, 1) := by decide +kernel
theorem dX9_become_6 : decode cX9_become 6 = .ok (.areturn, 1) := by decide +kernel
theorem dX9_becomeReady_0 : decode cX9_becomeReady 0 = .ok (.aload_n 0, 1) := by decide +kernel
theorem dX9_becomeReady_1 : decode cX9_becomeReady 1 = .ok (.iconst 1, 1) := by decide +kernel
theorem dX9_becomeReady_2 : decode cX9_becomeReady 2 = .ok (.putfield 19, 3) := by decide +kernel
theorem dX9_becomeReady_5 : decode cX9_becomeReady 5 = .ok (.aload_n 0, 1) := by decide +kernel
theorem dX9_becomeReady_6 : decode cX9_becomeReady 6 = .ok (.iload_n 1, 1) := by decide +kernel
theorem dX9_becomeReady_7 : decode cX9_becomeReady 7 = .ok (.getstatic 86, 3) := by decide +kernel
theorem dX9_becomeReady_10 : decode cX9_becomeReady 10 = .ok (.invokevirtual 82, 3) := by decide +kernel
theorem dX9_becomeReady_13 : decode cX9_becomeReady 13 = .ok (.areturn, 1) := by decide +kernel
theorem dX9_hearReady_0 : decode cX9_hearReady 0 = .ok (.aload_n 1, 1) := by decide +kernel
theorem dX9_hearReady_1 : decode cX9_hearReady 1 = .ok (.getfield 89, 3) := by decide +kernel
theorem dX9_hearReady_4 : decode cX9_hearReady 4 = .ok (.aload_n 0, 1) := by decide +kernel
theorem dX9_hearReady_5 : decode cX9_hearReady 5 = .ok (.getfield 19, 3) := by decide +kernel
theorem dX9_hearReady_8 : decode cX9_hearReady 8 = .ok (.if_icmp .ne 7, 3) := by decide +kernel
theorem dX9_hearReady_11 : decode cX9_hearReady 11 = .ok (.iconst 1, 1) := by decide +kernel
theorem dX9_hearReady_12 : decode cX9_hearReady 12 = .ok (.goto 4, 3) := by decide +kernel
theorem dX9_hearReady_15 : decode cX9_hearReady 15 = .ok (.iconst 0, 1) := by decide +kernel
theorem dX9_hearReady_16 : decode cX9_hearReady 16 = .ok (.istore_n 2, 1) := by decide +kernel
theorem dX9_hearReady_17 : decode cX9_hearReady 17 = .ok (.aload_n 1, 1) := by decide +kernel
theorem dX9_hearReady_18 : decode cX9_hearReady 18 = .ok (.getfield 45, 3) := by decide +kernel
theorem dX9_hearReady_21 : decode cX9_hearReady 21 = .ok (.getstatic 90, 3) := by decide +kernel
theorem dX9_hearReady_24 : decode cX9_hearReady 24 = .ok (.if_acmp .ne 25, 3) := by decide +kernel
theorem dX9_hearReady_27 : decode cX9_hearReady 27 = .ok (.iload_n 2, 1) := by decide +kernel
theorem dX9_hearReady_28 : decode cX9_hearReady 28 = .ok (.ifCond .eq 21, 3) := by decide +kernel
theorem dX9_hearReady_31 : decode cX9_hearReady 31 = .ok (.aload_n 0, 1) := by decide +kernel
theorem dX9_hearReady_32 : decode cX9_hearReady 32 = .ok (.aload_n 1, 1) := by decide +kernel
theorem dX9_hearReady_33 : decode cX9_hearReady 33 = .ok (.invokevirtual 93, 3) := by decide +kernel
theorem dX9_hearReady_36 : decode cX9_hearReady 36 = .ok (.ifCond .eq 9, 3) := by decide +kernel
theorem dX9_hearReady_39 : decode cX9_hearReady 39 = .ok (.getstatic 97, 3) := by decide +kernel
theorem dX9_hearReady_42 : decode cX9_hearReady 42 = .ok (.goto 6, 3) := by decide +kernel
theorem dX9_hearReady_45 : decode cX9_hearReady 45 = .ok (.getstatic 63, 3) := by decide +kernel
theorem dX9_hearReady_48 : decode cX9_hearReady 48 = .ok (.areturn, 1) := by decide +kernel
theorem dX9_hearReady_49 : decode cX9_hearReady 49 = .ok (.aload_n 1, 1) := by decide +kernel
theorem dX9_hearReady_50 : decode cX9_hearReady 50 = .ok (.getfield 45, 3) := by decide +kernel
theorem dX9_hearReady_53 : decode cX9_hearReady 53 = .ok (.getstatic 100, 3) := by decide +kernel
theorem dX9_hearReady_56 : decode cX9_hearReady 56 = .ok (.if_acmp .ne 20, 3) := by decide +kernel
theorem dX9_hearReady_59 : decode cX9_hearReady 59 = .ok (.iload_n 2, 1) := by decide +kernel
theorem dX9_hearReady_60 : decode cX9_hearReady 60 = .ok (.ifCond .eq 16, 3) := by decide +kernel
theorem dX9_hearReady_63 : decode cX9_hearReady 63 = .ok (.aload_n 0, 1) := by decide +kernel
theorem dX9_hearReady_64 : decode cX9_hearReady 64 = .ok (.aload_n 1, 1) := by decide +kernel
theorem dX9_hearReady_65 : decode cX9_hearReady 65 = .ok (.invokevirtual 93, 3) := by decide +kernel
theorem dX9_hearReady_68 : decode cX9_hearReady 68 = .ok (.ifCond .eq 8, 3) := by decide +kernel
theorem dX9_hearReady_71 : decode cX9_hearReady 71 = .ok (.aload_n 0, 1) := by decide +kernel
theorem dX9_hearReady_72 : decode cX9_hearReady 72 = .ok (.invokevirtual 103, 3) := by decide +kernel
theorem dX9_hearReady_75 : decode cX9_hearReady 75 = .ok (.areturn, 1) := by decide +kernel
theorem dX9_hearReady_76 : decode cX9_hearReady 76 = .ok (.aload_n 0, 1) := by decide +kernel
theorem dX9_hearReady_77 : decode cX9_hearReady 77 = .ok (.invokevirtual 107, 3) := by decide +kernel
theorem dX9_hearReady_80 : decode cX9_hearReady 80 = .ok (.areturn, 1) := by decide +kernel
theorem dX9_showsWhatIsTold_0 : decode cX9_showsWhatIsTold 0 = .ok (.lconst 1, 1) := by decide +kernel
theorem dX9_showsWhatIsTold_1 : decode cX9_showsWhatIsTold 1 = .ok (.aload_n 1, 1) := by decide +kernel
theorem dX9_showsWhatIsTold_2 : decode cX9_showsWhatIsTold 2 = .ok (.getfield 110, 3) := by decide +kernel
theorem dX9_showsWhatIsTold_5 : decode cX9_showsWhatIsTold 5 = .ok (.lshl, 1) := by decide +kernel
theorem dX9_showsWhatIsTold_6 : decode cX9_showsWhatIsTold 6 = .ok (.lconst 1, 1) := by decide +kernel
theorem dX9_showsWhatIsTold_7 : decode cX9_showsWhatIsTold 7 = .ok (.lsub, 1) := by decide +kernel
theorem dX9_showsWhatIsTold_8 : decode cX9_showsWhatIsTold 8 = .ok (.lstore_n 2, 1) := by decide +kernel
theorem dX9_showsWhatIsTold_9 : decode cX9_showsWhatIsTold 9 = .ok (.aload_n 0, 1) := by decide +kernel
theorem dX9_showsWhatIsTold_10 : decode cX9_showsWhatIsTold 10 = .ok (.getfield 25, 3) := by decide +kernel
theorem dX9_showsWhatIsTold_13 : decode cX9_showsWhatIsTold 13 = .ok (.aload_n 0, 1) := by decide +kernel
theorem dX9_showsWhatIsTold_14 : decode cX9_showsWhatIsTold 14 = .ok (.getfield 19, 3) := by decide +kernel
theorem dX9_showsWhatIsTold_17 : decode cX9_showsWhatIsTold 17 = .ok (.iconst 1, 1) := by decide +kernel
theorem dX9_showsWhatIsTold_18 : decode cX9_showsWhatIsTold 18 = .ok (.isub, 1) := by decide +kernel
theorem dX9_showsWhatIsTold_19 : decode cX9_showsWhatIsTold 19 = .ok (.laload, 1) := by decide +kernel
theorem dX9_showsWhatIsTold_20 : decode cX9_showsWhatIsTold 20 = .ok (.aload_n 1, 1) := by decide +kernel
theorem dX9_showsWhatIsTold_21 : decode cX9_showsWhatIsTold 21 = .ok (.getfield 113, 3) := by decide +kernel
theorem dX9_showsWhatIsTold_24 : decode cX9_showsWhatIsTold 24 = .ok (.lxor, 1) := by decide +kernel
theorem dX9_showsWhatIsTold_25 : decode cX9_showsWhatIsTold 25 = .ok (.lload_n 2, 1) := by decide +kernel
theorem dX9_showsWhatIsTold_26 : decode cX9_showsWhatIsTold 26 = .ok (.land, 1) := by decide +kernel
theorem dX9_showsWhatIsTold_27 : decode cX9_showsWhatIsTold 27 = .ok (.lconst 0, 1) := by decide +kernel
theorem dX9_showsWhatIsTold_28 : decode cX9_showsWhatIsTold 28 = .ok (.lcmp, 1) := by decide +kernel
theorem dX9_showsWhatIsTold_29 : decode cX9_showsWhatIsTold 29 = .ok (.ifCond .ne 7, 3) := by decide +kernel
theorem dX9_showsWhatIsTold_32 : decode cX9_showsWhatIsTold 32 = .ok (.iconst 1, 1) := by decide +kernel
theorem dX9_showsWhatIsTold_33 : decode cX9_showsWhatIsTold 33 = .ok (.goto 4, 3) := by decide +kernel
theorem dX9_showsWhatIsTold_36 : decode cX9_showsWhatIsTold 36 = .ok (.iconst 0, 1) := by decide +kernel
theorem dX9_showsWhatIsTold_37 : decode cX9_showsWhatIsTold 37 = .ok (.ireturn, 1) := by decide +kernel
theorem dX9_becomeChosen_0 : decode cX9_becomeChosen 0 = .ok (.aload_n 0, 1) := by decide +kernel
theorem dX9_becomeChosen_1 : decode cX9_becomeChosen 1 = .ok (.getfield 19, 3) := by decide +kernel
theorem dX9_becomeChosen_4 : decode cX9_becomeChosen 4 = .ok (.aload_n 0, 1) := by decide +kernel
theorem dX9_becomeChosen_5 : decode cX9_becomeChosen 5 = .ok (.getfield 22, 3) := by decide +kernel
theorem dX9_becomeChosen_8 : decode cX9_becomeChosen 8 = .ok (.if_icmp .ge 17, 3) := by decide +kernel
theorem dX9_becomeChosen_11 : decode cX9_becomeChosen 11 = .ok (.aload_n 0, 1) := by decide +kernel
theorem dX9_becomeChosen_12 : decode cX9_becomeChosen 12 = .ok (.dup, 1) := by decide +kernel
theorem dX9_becomeChosen_13 : decode cX9_becomeChosen 13 = .ok (.getfield 19, 3) := by decide +kernel
theorem dX9_becomeChosen_16 : decode cX9_becomeChosen 16 = .ok (.iconst 1, 1) := by decide +kernel
theorem dX9_becomeChosen_17 : decode cX9_becomeChosen 17 = .ok (.iadd, 1) := by decide +kernel
theorem dX9_becomeChosen_18 : decode cX9_becomeChosen 18 = .ok (.putfield 19, 3) := by decide +kernel
theorem dX9_becomeChosen_21 : decode cX9_becomeChosen 21 = .ok (.getstatic 117, 3) := by decide +kernel
theorem dX9_becomeChosen_24 : decode cX9_becomeChosen 24 = .ok (.areturn, 1) := by decide +kernel
theorem dX9_becomeChosen_25 : decode cX9_becomeChosen 25 = .ok (.aload_n 0, 1) := by decide +kernel
theorem dX9_becomeChosen_26 : decode cX9_becomeChosen 26 = .ok (.aload_n 0, 1) := by decide +kernel
theorem dX9_becomeChosen_27 : decode cX9_becomeChosen 27 = .ok (.getfield 15, 3) := by decide +kernel
theorem dX9_becomeChosen_30 : decode cX9_becomeChosen 30 = .ok (.iconst 2, 1) := by decide +kernel
theorem dX9_becomeChosen_31 : decode cX9_becomeChosen 31 = .ok (.if_icmp .ne 7, 3) := by decide +kernel
theorem dX9_becomeChosen_34 : decode cX9_becomeChosen 34 = .ok (.iconst 3, 1) := by decide +kernel
theorem dX9_becomeChosen_35 : decode cX9_becomeChosen 35 = .ok (.goto 5, 3) := by decide +kernel
theorem dX9_becomeChosen_38 : decode cX9_becomeChosen 38 = .ok (.bipush 6, 2) := by decide +kernel
theorem dX9_becomeChosen_40 : decode cX9_becomeChosen 40 = .ok (.putfield 15, 3) := by decide +kernel
theorem dX9_becomeChosen_43 : decode cX9_becomeChosen 43 = .ok (.getstatic 120, 3) := by decide +kernel
theorem dX9_becomeChosen_46 : decode cX9_becomeChosen 46 = .ok (.areturn, 1) := by decide +kernel
theorem dX9_hearActive_0 : decode cX9_hearActive 0 = .ok (.aload_n 1, 1) := by decide +kernel
theorem dX9_hearActive_1 : decode cX9_hearActive 1 = .ok (.getfield 45, 3) := by decide +kernel
theorem dX9_hearActive_4 : decode cX9_hearActive 4 = .ok (.getstatic 123, 3) := by decide +kernel
theorem dX9_hearActive_7 : decode cX9_hearActive 7 = .ok (.if_acmp .ne 12, 3) := by decide +kernel
theorem dX9_hearActive_10 : decode cX9_hearActive 10 = .ok (.aload_n 0, 1) := by decide +kernel
theorem dX9_hearActive_11 : decode cX9_hearActive 11 = .ok (.iconst 4, 1) := by decide +kernel
theorem dX9_hearActive_12 : decode cX9_hearActive 12 = .ok (.getstatic 63, 3) := by decide +kernel
theorem dX9_hearActive_15 : decode cX9_hearActive 15 = .ok (.invokevirtual 82, 3) := by decide +kernel
theorem dX9_hearActive_18 : decode cX9_hearActive 18 = .ok (.areturn, 1) := by decide +kernel
theorem dX9_hearActive_19 : decode cX9_hearActive 19 = .ok (.aload_n 1, 1) := by decide +kernel
theorem dX9_hearActive_20 : decode cX9_hearActive 20 = .ok (.getfield 45, 3) := by decide +kernel
theorem dX9_hearActive_23 : decode cX9_hearActive 23 = .ok (.getstatic 126, 3) := by decide +kernel
theorem dX9_hearActive_26 : decode cX9_hearActive 26 = .ok (.if_acmp .ne 15, 3) := by decide +kernel
theorem dX9_hearActive_29 : decode cX9_hearActive 29 = .ok (.aload_n 0, 1) := by decide +kernel
theorem dX9_hearActive_30 : decode cX9_hearActive 30 = .ok (.bipush 7, 2) := by decide +kernel
theorem dX9_hearActive_32 : decode cX9_hearActive 32 = .ok (.getstatic 129, 3) := by decide +kernel
theorem dX9_hearActive_35 : decode cX9_hearActive 35 = .ok (.invokevirtual 82, 3) := by decide +kernel
theorem dX9_hearActive_38 : decode cX9_hearActive 38 = .ok (.goto 7, 3) := by decide +kernel
theorem dX9_hearActive_41 : decode cX9_hearActive 41 = .ok (.aload_n 0, 1) := by decide +kernel
theorem dX9_hearActive_42 : decode cX9_hearActive 42 = .ok (.invokevirtual 107, 3) := by decide +kernel
theorem dX9_hearActive_45 : decode cX9_hearActive 45 = .ok (.areturn, 1) := by decide +kernel
theorem dX9_goBack_0 : decode cX9_goBack 0 = .ok (.aload_n 0, 1) := by decide +kernel
theorem dX9_goBack_1 : decode cX9_goBack 1 = .ok (.aload_n 0, 1) := by decide +kernel
theorem dX9_goBack_2 : decode cX9_goBack 2 = .ok (.getfield 15, 3) := by decide +kernel
theorem dX9_goBack_5 : decode cX9_goBack 5 = .ok (.iconst 2, 1) := by decide +kernel
theorem dX9_goBack_6 : decode cX9_goBack 6 = .ok (.if_icmp .eq 11, 3) := by decide +kernel
theorem dX9_goBack_9 : decode cX9_goBack 9 = .ok (.aload_n 0, 1) := by decide +kernel
theorem dX9_goBack_10 : decode cX9_goBack 10 = .ok (.getfield 15, 3) := by decide +kernel
theorem dX9_goBack_13 : decode cX9_goBack 13 = .ok (.iconst 3, 1) := by decide +kernel
theorem dX9_goBack_14 : decode cX9_goBack 14 = .ok (.if_icmp .ne 7, 3) := by decide +kernel
theorem dX9_goBack_17 : decode cX9_goBack 17 = .ok (.iconst 1, 1) := by decide +kernel
theorem dX9_goBack_18 : decode cX9_goBack 18 = .ok (.goto 4, 3) := by decide +kernel
theorem dX9_goBack_21 : decode cX9_goBack 21 = .ok (.iconst 4, 1) := by decide +kernel
theorem dX9_goBack_22 : decode cX9_goBack 22 = .ok (.putfield 15, 3) := by decide +kernel
theorem dX9_goBack_25 : decode cX9_goBack 25 = .ok (.getstatic 63, 3) := by decide +kernel
theorem dX9_goBack_28 : decode cX9_goBack 28 = .ok (.areturn, 1) := by decide +kernel
theorem dX9_say_0 : decode cX9_say 0 = .ok (.getstatic 132, 3) := by decide +kernel
theorem dX9_say_3 : decode cX9_say 3 = .ok (.aload_n 1, 1) := by decide +kernel
theorem dX9_say_4 : decode cX9_say 4 = .ok (.invokevirtual 138, 3) := by decide +kernel
theorem dX9_say_7 : decode cX9_say 7 = .ok (.iaload, 1) := by decide +kernel
theorem dX9_say_8 : decode cX9_say 8 = .ok (.tableswitch 190 1 6 #[40, 65, 113, 129, 145, 174], 40) := by decide +kernel
theorem dX9_say_48 : decode cX9_say 48 = .ok (.aload_n 3, 1) := by decide +kernel
theorem dX9_say_49 : decode cX9_say 49 = .ok (.iconst 4, 1) := by decide +kernel
theorem dX9_say_50 : decode cX9_say 50 = .ok (.bipush 64, 2) := by decide +kernel
theorem dX9_say_52 : decode cX9_say 52 = .ok (.aload_n 0, 1) := by decide +kernel
theorem dX9_say_53 : decode cX9_say 53 = .ok (.getfield 22, 3) := by decide +kernel
theorem dX9_say_56 : decode cX9_say 56 = .ok (.iconst 1, 1) := by decide +kernel
theorem dX9_say_57 : decode cX9_say 57 = .ok (.isub, 1) := by decide +kernel
theorem dX9_say_58 : decode cX9_say 58 = .ok (.imul, 1) := by decide +kernel
theorem dX9_say_59 : decode cX9_say 59 = .ok (.iadd, 1) := by decide +kernel
theorem dX9_say_60 : decode cX9_say 60 = .ok (.i2l, 1) := by decide +kernel
theorem dX9_say_61 : decode cX9_say 61 = .ok (.iconst 2, 1) := by decide +kernel
theorem dX9_say_62 : decode cX9_say 62 = .ok (.invokestatic 142, 3) := by decide +kernel
theorem dX9_say_65 : decode cX9_say 65 = .ok (.bipush 18, 2) := by decide +kernel
theorem dX9_say_67 : decode cX9_say 67 = .ok (.invokevirtual 148, 3) := by decide +kernel
theorem dX9_say_70 : decode cX9_say 70 = .ok (.goto 128, 3) := by decide +kernel
theorem dX9_say_73 : decode cX9_say 73 = .ok (.aload_n 2, 1) := by decide +kernel
theorem dX9_say_74 : decode cX9_say 74 = .ok (.getfield 110, 3) := by decide +kernel
theorem dX9_say_77 : decode cX9_say 77 = .ok (.aload_n 2, 1) := by decide +kernel
theorem dX9_say_78 : decode cX9_say 78 = .ok (.getfield 110, 3) := by decide +kernel
theorem dX9_say_81 : decode cX9_say 81 = .ok (.bipush 8, 2) := by decide +kernel
theorem dX9_say_83 : decode cX9_say 83 = .ok (.idiv, 1) := by decide +kernel
theorem dX9_say_84 : decode cX9_say 84 = .ok (.iadd, 1) := by decide +kernel
theorem dX9_say_85 : decode cX9_say 85 = .ok (.istore 4, 2) := by decide +kernel
theorem dX9_say_87 : decode cX9_say 87 = .ok (.aload_n 0, 1) := by decide +kernel
theorem dX9_say_88 : decode cX9_say 88 = .ok (.getfield 25, 3) := by decide +kernel
theorem dX9_say_91 : decode cX9_say 91 = .ok (.aload_n 0, 1) := by decide +kernel
theorem dX9_say_92 : decode cX9_say 92 = .ok (.getfield 19, 3) := by decide +kernel
theorem dX9_say_95 : decode cX9_say 95 = .ok (.iconst 1, 1) := by decide +kernel
theorem dX9_say_96 : decode cX9_say 96 = .ok (.isub, 1) := by decide +kernel
theorem dX9_say_97 : decode cX9_say 97 = .ok (.laload, 1) := by decide +kernel
theorem dX9_say_98 : decode cX9_say 98 = .ok (.iconst 5, 1) := by decide +kernel
theorem dX9_say_99 : decode cX9_say 99 = .ok (.invokestatic 142, 3) := by decide +kernel
theorem dX9_say_102 : decode cX9_say 102 = .ok (.lstore 5, 2) := by decide +kernel
theorem dX9_say_104 : decode cX9_say 104 = .ok (.aload_n 3, 1) := by decide +kernel
theorem dX9_say_105 : decode cX9_say 105 = .ok (.lload 5, 2) := by decide +kernel
theorem dX9_say_107 : decode cX9_say 107 = .ok (.iload 4, 2) := by decide +kernel
theorem dX9_say_109 : decode cX9_say 109 = .ok (.lushr, 1) := by decide +kernel
theorem dX9_say_110 : decode cX9_say 110 = .ok (.bipush 45, 2) := by decide +kernel
theorem dX9_say_112 : decode cX9_say 112 = .ok (.iload 4, 2) := by decide +kernel
theorem dX9_say_114 : decode cX9_say 114 = .ok (.isub, 1) := by decide +kernel
theorem dX9_say_115 : decode cX9_say 115 = .ok (.invokevirtual 148, 3) := by decide +kernel
theorem dX9_say_118 : decode cX9_say 118 = .ok (.goto 80, 3) := by decide +kernel
theorem dX9_say_121 : decode cX9_say 121 = .ok (.aload_n 3, 1) := by decide +kernel
theorem dX9_say_122 : decode cX9_say 122 = .ok (.ldc2_w 154, 3) := by decide +kernel
theorem dX9_say_125 : decode cX9_say 125 = .ok (.iconst 1, 1) := by decide +kernel
theorem dX9_say_126 : decode cX9_say 126 = .ok (.invokestatic 156, 3) := by decide +kernel
theorem dX9_say_129 : decode cX9_say 129 = .ok (.bipush 27, 2) := by decide +kernel
theorem dX9_say_131 : decode cX9_say 131 = .ok (.invokevirtual 148, 3) := by decide +kernel
theorem dX9_say_134 : decode cX9_say 134 = .ok (.goto 64, 3) := by decide +kernel
theorem dX9_say_137 : decode cX9_say 137 = .ok (.aload_n 3, 1) := by decide +kernel
theorem dX9_say_138 : decode cX9_say 138 = .ok (.ldc2_w 159, 3) := by decide +kernel
theorem dX9_say_141 : decode cX9_say 141 = .ok (.iconst 1, 1) := by decide +kernel
theorem dX9_say_142 : decode cX9_say 142 = .ok (.invokestatic 156, 3) := by decide +kernel
theorem dX9_say_145 : decode cX9_say 145 = .ok (.bipush 27, 2) := by decide +kernel
theorem dX9_say_147 : decode cX9_say 147 = .ok (.invokevirtual 148, 3) := by decide +kernel
theorem dX9_say_150 : decode cX9_say 150 = .ok (.goto 48, 3) := by decide +kernel
theorem dX9_say_153 : decode cX9_say 153 = .ok (.sipush 515, 3) := by decide +kernel
theorem dX9_say_156 : decode cX9_say 156 = .ok (.aload_n 2, 1) := by decide +kernel
theorem dX9_say_157 : decode cX9_say 157 = .ok (.getfield 161, 3) := by decide +kernel
theorem dX9_say_160 : decode cX9_say 160 = .ok (.bipush 16, 2) := by decide +kernel
theorem dX9_say_162 : decode cX9_say 162 = .ok (.ishl, 1) := by decide +kernel
theorem dX9_say_163 : decode cX9_say 163 = .ok (.ior, 1) := by decide +kernel
theorem dX9_say_164 : decode cX9_say 164 = .ok (.i2l, 1) := by decide +kernel
theorem dX9_say_165 : decode cX9_say 165 = .ok (.lstore 7, 2) := by decide +kernel
theorem dX9_say_167 : decode cX9_say 167 = .ok (.aload_n 3, 1) := by decide +kernel
theorem dX9_say_168 : decode cX9_say 168 = .ok (.lload 7, 2) := by decide +kernel
theorem dX9_say_170 : decode cX9_say 170 = .ok (.iconst 3, 1) := by decide +kernel
theorem dX9_say_171 : decode cX9_say 171 = .ok (.invokestatic 156, 3) := by decide +kernel
theorem dX9_say_174 : decode cX9_say 174 = .ok (.bipush 45, 2) := by decide +kernel
theorem dX9_say_176 : decode cX9_say 176 = .ok (.invokevirtual 148, 3) := by decide +kernel
theorem dX9_say_179 : decode cX9_say 179 = .ok (.goto 19, 3) := by decide +kernel
theorem dX9_say_182 : decode cX9_say 182 = .ok (.aload_n 3, 1) := by decide +kernel
theorem dX9_say_183 : decode cX9_say 183 = .ok (.ldc2_w 164, 3) := by decide +kernel
theorem dX9_say_186 : decode cX9_say 186 = .ok (.iconst 1, 1) := by decide +kernel
theorem dX9_say_187 : decode cX9_say 187 = .ok (.invokestatic 156, 3) := by decide +kernel
theorem dX9_say_190 : decode cX9_say 190 = .ok (.bipush 27, 2) := by decide +kernel
theorem dX9_say_192 : decode cX9_say 192 = .ok (.invokevirtual 148, 3) := by decide +kernel
theorem dX9_say_195 : decode cX9_say 195 = .ok (.goto 3, 3) := by decide +kernel
theorem dX9_say_198 : decode cX9_say 198 = .ok (.return_, 1) := by decide +kernel
theorem dX10_init_0 : decode cX10_init 0 = .ok (.aload_n 0, 1) := by decide +kernel
theorem dX10_init_1 : decode cX10_init 1 = .ok (.invokespecial 1, 3) := by decide +kernel
theorem dX10_init_4 : decode cX10_init 4 = .ok (.aload_n 0, 1) := by decide +kernel
theorem dX10_init_5 : decode cX10_init 5 = .ok (.new 7, 3) := by decide +kernel
theorem dX10_init_8 : decode cX10_init 8 = .ok (.dup, 1) := by decide +kernel
theorem dX10_init_9 : decode cX10_init 9 = .ok (.sipush 160, 3) := by decide +kernel
theorem dX10_init_12 : decode cX10_init 12 = .ok (.invokespecial 11, 3) := by decide +kernel
theorem dX10_init_15 : decode cX10_init 15 = .ok (.putfield 14, 3) := by decide +kernel
theorem dX10_init_18 : decode cX10_init 18 = .ok (.aload_n 0, 1) := by decide +kernel
theorem dX10_init_19 : decode cX10_init 19 = .ok (.new 18, 3) := by decide +kernel
theorem dX10_init_22 : decode cX10_init 22 = .ok (.dup, 1) := by decide +kernel
theorem dX10_init_23 : decode cX10_init 23 = .ok (.invokespecial 20, 3) := by decide +kernel
theorem dX10_init_26 : decode cX10_init 26 = .ok (.putfield 21, 3) := by decide +kernel
theorem dX10_init_29 : decode cX10_init 29 = .ok (.aload_n 0, 1) := by decide +kernel
theorem dX10_init_30 : decode cX10_init 30 = .ok (.new 25, 3) := by decide +kernel
theorem dX10_init_33 : decode cX10_init 33 = .ok (.dup, 1) := by decide +kernel
theorem dX10_init_34 : decode cX10_init 34 = .ok (.invokespecial 27, 3) := by decide +kernel
theorem dX10_init_37 : decode cX10_init 37 = .ok (.putfield 28, 3) := by decide +kernel
theorem dX10_init_40 : decode cX10_init 40 = .ok (.aload_n 0, 1) := by decide +kernel
theorem dX10_init_41 : decode cX10_init 41 = .ok (.new 32, 3) := by decide +kernel
theorem dX10_init_44 : decode cX10_init 44 = .ok (.dup, 1) := by decide +kernel
theorem dX10_init_45 : decode cX10_init 45 = .ok (.invokespecial 34, 3) := by decide +kernel
theorem dX10_init_48 : decode cX10_init 48 = .ok (.putfield 35, 3) := by decide +kernel
theorem dX10_init_51 : decode cX10_init 51 = .ok (.return_, 1) := by decide +kernel
theorem dX10_tag_0 : decode cX10_tag 0 = .ok (.iload_n 1, 1) := by decide +kernel
theorem dX10_tag_1 : decode cX10_tag 1 = .ok (.iconst 4, 1) := by decide +kernel
theorem dX10_tag_2 : decode cX10_tag 2 = .ok (.if_icmp .eq 18, 3) := by decide +kernel
theorem dX10_tag_5 : decode cX10_tag 5 = .ok (.iload_n 1, 1) := by decide +kernel
theorem dX10_tag_6 : decode cX10_tag 6 = .ok (.bipush 7, 2) := by decide +kernel
theorem dX10_tag_8 : decode cX10_tag 8 = .ok (.if_icmp .eq 12, 3) := by decide +kernel
theorem dX10_tag_11 : decode cX10_tag 11 = .ok (.iload_n 1, 1) := by decide +kernel
theorem dX10_tag_12 : decode cX10_tag 12 = .ok (.bipush 10, 2) := by decide +kernel
theorem dX10_tag_14 : decode cX10_tag 14 = .ok (.if_icmp .eq 6, 3) := by decide +kernel
theorem dX10_tag_17 : decode cX10_tag 17 = .ok (.bipush (-12), 2) := by decide +kernel
theorem dX10_tag_19 : decode cX10_tag 19 = .ok (.ireturn, 1) := by decide +kernel
theorem dX10_tag_20 : decode cX10_tag 20 = .ok (.new 39, 3) := by decide +kernel
theorem dX10_tag_23 : decode cX10_tag 23 = .ok (.dup, 1) := by decide +kernel
theorem dX10_tag_24 : decode cX10_tag 24 = .ok (.iload_n 1, 1) := by decide +kernel
theorem dX10_tag_25 : decode cX10_tag 25 = .ok (.iload_n 2, 1) := by decide +kernel
theorem dX10_tag_26 : decode cX10_tag 26 = .ok (.iload_n 3, 1) := by decide +kernel
theorem dX10_tag_27 : decode cX10_tag 27 = .ok (.iload 4, 2) := by decide +kernel
theorem dX10_tag_29 : decode cX10_tag 29 = .ok (.invokespecial 41, 3) := by decide +kernel
theorem dX10_tag_32 : decode cX10_tag 32 = .ok (.astore 5, 2) := by decide +kernel
theorem dX10_tag_34 : decode cX10_tag 34 = .ok (.aload 5, 2) := by decide +kernel
theorem dX10_tag_36 : decode cX10_tag 36 = .ok (.invokevirtual 44, 3) := by decide +kernel
theorem dX10_tag_39 : decode cX10_tag 39 = .ok (.ifCond .ne 15, 3) := by decide +kernel
theorem dX10_tag_42 : decode cX10_tag 42 = .ok (.aload_n 0, 1) := by decide +kernel
theorem dX10_tag_43 : decode cX10_tag 43 = .ok (.getfield 28, 3) := by decide +kernel
theorem dX10_tag_46 : decode cX10_tag 46 = .ok (.aload 5, 2) := by decide +kernel
theorem dX10_tag_48 : decode cX10_tag 48 = .ok (.invokevirtual 48, 3) := by decide +kernel
theorem dX10_tag_51 : decode cX10_tag 51 = .ok (.ifCond .eq 6, 3) := by decide +kernel
theorem dX10_tag_54 : decode cX10_tag 54 = .ok (.bipush (-13), 2) := by decide +kernel
theorem dX10_tag_56 : decode cX10_tag 56 = .ok (.ireturn, 1) := by decide +kernel
theorem dX10_tag_57 : decode cX10_tag 57 = .ok (.aload_n 0, 1) := by decide +kernel
theorem dX10_tag_58 : decode cX10_tag 58 = .ok (.getfield 28, 3) := by decide +kernel
theorem dX10_tag_61 : decode cX10_tag 61 = .ok (.invokevirtual 52, 3) := by decide +kernel
theorem dX10_tag_64 : decode cX10_tag 64 = .ok (.bipush 16, 2) := by decide +kernel
theorem dX10_tag_66 : decode cX10_tag 66 = .ok (.if_icmp .ge 15, 3) := by decide +kernel
theorem dX10_tag_69 : decode cX10_tag 69 = .ok (.aload_n 0, 1) := by decide +kernel
theorem dX10_tag_70 : decode cX10_tag 70 = .ok (.getfield 28, 3) := by decide +kernel
theorem dX10_tag_73 : decode cX10_tag 73 = .ok (.aload 5, 2) := by decide +kernel
theorem dX10_tag_75 : decode cX10_tag 75 = .ok (.invokevirtual 56, 3) := by decide +kernel
theorem dX10_tag_78 : decode cX10_tag 78 = .ok (.goto 5, 3) := by decide +kernel
theorem dX10_tag_81 : decode cX10_tag 81 = .ok (.bipush (-14), 2) := by decide +kernel
theorem dX10_tag_83 : decode cX10_tag 83 = .ok (.ireturn, 1) := by decide +kernel
theorem dX10_out_0 : decode cX10_out 0 = .ok (.aload_n 0, 1) := by decide +kernel
theorem dX10_out_1 : decode cX10_out 1 = .ok (.getfield 28, 3) := by decide +kernel
theorem dX10_out_4 : decode cX10_out 4 = .ok (.iload_n 1, 1) := by decide +kernel
theorem dX10_out_5 : decode cX10_out 5 = .ok (.invokevirtual 60, 3) := by decide +kernel
theorem dX10_out_8 : decode cX10_out 8 = .ok (.ifCond .eq 15, 3) := by decide +kernel
theorem dX10_out_11 : decode cX10_out 11 = .ok (.aload_n 0, 1) := by decide +kernel
theorem dX10_out_12 : decode cX10_out 12 = .ok (.getfield 28, 3) := by decide +kernel
theorem dX10_out_15 : decode cX10_out 15 = .ok (.iload_n 1, 1) := by decide +kernel
theorem dX10_out_16 : decode cX10_out 16 = .ok (.iload_n 2, 1) := by decide +kernel
theorem dX10_out_17 : decode cX10_out 17 = .ok (.invokevirtual 64, 3) := by decide +kernel
theorem dX10_out_20 : decode cX10_out 20 = .ok (.goto 5, 3) := by decide +kernel
theorem dX10_out_23 : decode cX10_out 23 = .ok (.bipush (-11), 2) := by decide +kernel
theorem dX10_out_25 : decode cX10_out 25 = .ok (.ireturn, 1) := by decide +kernel
theorem dX10_field_0 : decode cX10_field 0 = .ok (.aload_n 0, 1) := by decide +kernel
theorem dX10_field_1 : decode cX10_field 1 = .ok (.getfield 28, 3) := by decide +kernel
theorem dX10_field_4 : decode cX10_field 4 = .ok (.iload_n 1, 1) := by decide +kernel
theorem dX10_field_5 : decode cX10_field 5 = .ok (.invokevirtual 68, 3) := by decide +kernel
theorem dX10_field_8 : decode cX10_field 8 = .ok (.ireturn, 1) := by decide +kernel
theorem dX10_bits_0 : decode cX10_bits 0 = .ok (.iload_n 2, 1) := by decide +kernel
theorem dX10_bits_1 : decode cX10_bits 1 = .ok (.iconst 1, 1) := by decide +kernel
theorem dX10_bits_2 : decode cX10_bits 2 = .ok (.if_icmp .lt 9, 3) := by decide +kernel
theorem dX10_bits_5 : decode cX10_bits 5 = .ok (.iload_n 2, 1) := by decide +kernel
theorem dX10_bits_6 : decode cX10_bits 6 = .ok (.bipush 32, 2) := by decide +kernel
theorem dX10_bits_8 : decode cX10_bits 8 = .ok (.if_icmp .le 6, 3) := by decide +kernel
theorem dX10_bits_11 : decode cX10_bits 11 = .ok (.bipush (-12), 2) := by decide +kernel
theorem dX10_bits_13 : decode cX10_bits 13 = .ok (.ireturn, 1) := by decide +kernel
theorem dX10_bits_14 : decode cX10_bits 14 = .ok (.aload_n 0, 1) := by decide +kernel
theorem dX10_bits_15 : decode cX10_bits 15 = .ok (.getfield 14, 3) := by decide +kernel
theorem dX10_bits_18 : decode cX10_bits 18 = .ok (.iload_n 2, 1) := by decide +kernel
theorem dX10_bits_19 : decode cX10_bits 19 = .ok (.invokevirtual 72, 3) := by decide +kernel
theorem dX10_bits_22 : decode cX10_bits 22 = .ok (.ifCond .ne 6, 3) := by decide +kernel
theorem dX10_bits_25 : decode cX10_bits 25 = .ok (.bipush (-14), 2) := by decide +kernel
theorem dX10_bits_27 : decode cX10_bits 27 = .ok (.ireturn, 1) := by decide +kernel
theorem dX10_bits_28 : decode cX10_bits 28 = .ok (.aload_n 0, 1) := by decide +kernel
theorem dX10_bits_29 : decode cX10_bits 29 = .ok (.getfield 14, 3) := by decide +kernel
theorem dX10_bits_32 : decode cX10_bits 32 = .ok (.iload_n 1, 1) := by decide +kernel
theorem dX10_bits_33 : decode cX10_bits 33 = .ok (.iload_n 2, 1) := by decide +kernel
theorem dX10_bits_34 : decode cX10_bits 34 = .ok (.invokevirtual 75, 3) := by decide +kernel
theorem dX10_bits_37 : decode cX10_bits 37 = .ok (.aload_n 0, 1) := by decide +kernel
theorem dX10_bits_38 : decode cX10_bits 38 = .ok (.getfield 14, 3) := by decide +kernel
theorem dX10_bits_41 : decode cX10_bits 41 = .ok (.getfield 79, 3) := by decide +kernel
theorem dX10_bits_44 : decode cX10_bits 44 = .ok (.ireturn, 1) := by decide +kernel
theorem dX10_octet_0 : decode cX10_octet 0 = .ok (.aload_n 0, 1) := by decide +kernel
theorem dX10_octet_1 : decode cX10_octet 1 = .ok (.getfield 14, 3) := by decide +kernel
theorem dX10_octet_4 : decode cX10_octet 4 = .ok (.bipush 9, 2) := by decide +kernel
theorem dX10_octet_6 : decode cX10_octet 6 = .ok (.invokevirtual 72, 3) := by decide +kernel
theorem dX10_octet_9 : decode cX10_octet 9 = .ok (.ifCond .ne 6, 3) := by decide +kernel
theorem dX10_octet_12 : decode cX10_octet 12 = .ok (.bipush (-14), 2) := by decide +kernel
theorem dX10_octet_14 : decode cX10_octet 14 = .ok (.ireturn, 1) := by decide +kernel
theorem dX10_octet_15 : decode cX10_octet 15 = .ok (.aload_n 0, 1) := by decide +kernel
theorem dX10_octet_16 : decode cX10_octet 16 = .ok (.getfield 14, 3) := by decide +kernel
theorem dX10_octet_19 : decode cX10_octet 19 = .ok (.iload_n 1, 1) := by decide +kernel
theorem dX10_octet_20 : decode cX10_octet 20 = .ok (.invokevirtual 83, 3) := by decide +kernel
theorem dX10_octet_23 : decode cX10_octet 23 = .ok (.aload_n 0, 1) := by decide +kernel
theorem dX10_octet_24 : decode cX10_octet 24 = .ok (.getfield 14, 3) := by decide +kernel
theorem dX10_octet_27 : decode cX10_octet 27 = .ok (.getfield 79, 3) := by decide +kernel
theorem dX10_octet_30 : decode cX10_octet 30 = .ok (.ireturn, 1) := by decide +kernel
theorem dX10_check_0 : decode cX10_check 0 = .ok (.aload_n 0, 1) := by decide +kernel
theorem dX10_check_1 : decode cX10_check 1 = .ok (.getfield 14, 3) := by decide +kernel
theorem dX10_check_4 : decode cX10_check 4 = .ok (.getfield 79, 3) := by decide +kernel
theorem dX10_check_7 : decode cX10_check 7 = .ok (.bipush 9, 2) := by decide +kernel
theorem dX10_check_9 : decode cX10_check 9 = .ok (.idiv, 1) := by decide +kernel
theorem dX10_check_10 : decode cX10_check 10 = .ok (.istore_n 1, 1) := by decide +kernel
theorem dX10_check_11 : decode cX10_check 11 = .ok (.iload_n 1, 1) := by decide +kernel
theorem dX10_check_12 : decode cX10_check 12 = .ok (.iconst 1, 1) := by decide +kernel
theorem dX10_check_13 : decode cX10_check 13 = .ok (.if_icmp .lt 27, 3) := by decide +kernel
theorem dX10_check_16 : decode cX10_check 16 = .ok (.aload_n 0, 1) := by decide +kernel
theorem dX10_check_17 : decode cX10_check 17 = .ok (.getfield 14, 3) := by decide +kernel
theorem dX10_check_20 : decode cX10_check 20 = .ok (.getfield 79, 3) := by decide +kernel
theorem dX10_check_23 : decode cX10_check 23 = .ok (.bipush 9, 2) := by decide +kernel
theorem dX10_check_25 : decode cX10_check 25 = .ok (.irem, 1) := by decide +kernel
theorem dX10_check_26 : decode cX10_check 26 = .ok (.ifCond .ne 14, 3) := by decide +kernel
theorem dX10_check_29 : decode cX10_check 29 = .ok (.aload_n 0, 1) := by decide +kernel
theorem dX10_check_30 : decode cX10_check 30 = .ok (.getfield 14, 3) := by decide +kernel
theorem dX10_check_33 : decode cX10_check 33 = .ok (.iload_n 1, 1) := by decide +kernel
theorem dX10_check_34 : decode cX10_check 34 = .ok (.invokevirtual 86, 3) := by decide +kernel
theorem dX10_check_37 : decode cX10_check 37 = .ok (.ifCond .ne 6, 3) := by decide +kernel
theorem dX10_check_40 : decode cX10_check 40 = .ok (.bipush (-13), 2) := by decide +kernel
theorem dX10_check_42 : decode cX10_check 42 = .ok (.ireturn, 1) := by decide +kernel
theorem dX10_check_43 : decode cX10_check 43 = .ok (.aload_n 0, 1) := by decide +kernel
theorem dX10_check_44 : decode cX10_check 44 = .ok (.getfield 14, 3) := by decide +kernel
theorem dX10_check_47 : decode cX10_check 47 = .ok (.bipush 18, 2) := by decide +kernel
theorem dX10_check_49 : decode cX10_check 49 = .ok (.invokevirtual 72, 3) := by decide +kernel
theorem dX10_check_52 : decode cX10_check 52 = .ok (.ifCond .ne 6, 3) := by decide +kernel
theorem dX10_check_55 : decode cX10_check 55 = .ok (.bipush (-14), 2) := by decide +kernel
theorem dX10_check_57 : decode cX10_check 57 = .ok (.ireturn, 1) := by decide +kernel
theorem dX10_check_58 : decode cX10_check 58 = .ok (.aload_n 0, 1) := by decide +kernel
theorem dX10_check_59 : decode cX10_check 59 = .ok (.getfield 14, 3) := by decide +kernel
theorem dX10_check_62 : decode cX10_check 62 = .ok (.invokevirtual 89, 3) := by decide +kernel
theorem dX10_check_65 : decode cX10_check 65 = .ok (.aload_n 0, 1) := by decide +kernel
theorem dX10_check_66 : decode cX10_check 66 = .ok (.getfield 14, 3) := by decide +kernel
theorem dX10_check_69 : decode cX10_check 69 = .ok (.getfield 79, 3) := by decide +kernel
theorem dX10_check_72 : decode cX10_check 72 = .ok (.ireturn, 1) := by decide +kernel
theorem dX10_go_0 : decode cX10_go 0 = .ok (.aload_n 0, 1) := by decide +kernel
theorem dX10_go_1 : decode cX10_go 1 = .ok (.getfield 28, 3) := by decide +kernel
theorem dX10_go_4 : decode cX10_go 4 = .ok (.aload_n 0, 1) := by decide +kernel
theorem dX10_go_5 : decode cX10_go 5 = .ok (.getfield 14, 3) := by decide +kernel
theorem dX10_go_8 : decode cX10_go 8 = .ok (.aload_n 0, 1) := by decide +kernel
theorem dX10_go_9 : decode cX10_go 9 = .ok (.getfield 21, 3) := by decide +kernel
theorem dX10_go_12 : decode cX10_go 12 = .ok (.invokevirtual 92, 3) := by decide +kernel
theorem dX10_go_15 : decode cX10_go 15 = .ok (.istore_n 1, 1) := by decide +kernel
theorem dX10_go_16 : decode cX10_go 16 = .ok (.aload_n 0, 1) := by decide +kernel
theorem dX10_go_17 : decode cX10_go 17 = .ok (.getfield 14, 3) := by decide +kernel
theorem dX10_go_20 : decode cX10_go 20 = .ok (.invokevirtual 96, 3) := by decide +kernel
theorem dX10_go_23 : decode cX10_go 23 = .ok (.iload_n 1, 1) := by decide +kernel
theorem dX10_go_24 : decode cX10_go 24 = .ok (.ireturn, 1) := by decide +kernel
theorem dX10_answer_0 : decode cX10_answer 0 = .ok (.aload_n 0, 1) := by decide +kernel
theorem dX10_answer_1 : decode cX10_answer 1 = .ok (.getfield 21, 3) := by decide +kernel
theorem dX10_answer_4 : decode cX10_answer 4 = .ok (.iload_n 1, 1) := by decide +kernel
theorem dX10_answer_5 : decode cX10_answer 5 = .ok (.invokevirtual 99, 3) := by decide +kernel
theorem dX10_answer_8 : decode cX10_answer 8 = .ok (.ireturn, 1) := by decide +kernel
theorem dX10_state_0 : decode cX10_state 0 = .ok (.aload_n 0, 1) := by decide +kernel
theorem dX10_state_1 : decode cX10_state 1 = .ok (.getfield 28, 3) := by decide +kernel
theorem dX10_state_4 : decode cX10_state 4 = .ok (.iload_n 1, 1) := by decide +kernel
theorem dX10_state_5 : decode cX10_state 5 = .ok (.invokevirtual 60, 3) := by decide +kernel
theorem dX10_state_8 : decode cX10_state 8 = .ok (.ifCond .eq 14, 3) := by decide +kernel
theorem dX10_state_11 : decode cX10_state 11 = .ok (.aload_n 0, 1) := by decide +kernel
theorem dX10_state_12 : decode cX10_state 12 = .ok (.getfield 28, 3) := by decide +kernel
theorem dX10_state_15 : decode cX10_state 15 = .ok (.iload_n 1, 1) := by decide +kernel
theorem dX10_state_16 : decode cX10_state 16 = .ok (.invokevirtual 103, 3) := by decide +kernel
theorem dX10_state_19 : decode cX10_state 19 = .ok (.goto 5, 3) := by decide +kernel
theorem dX10_state_22 : decode cX10_state 22 = .ok (.bipush (-11), 2) := by decide +kernel
theorem dX10_state_24 : decode cX10_state 24 = .ok (.ireturn, 1) := by decide +kernel
theorem dX10_round_0 : decode cX10_round 0 = .ok (.aload_n 0, 1) := by decide +kernel
theorem dX10_round_1 : decode cX10_round 1 = .ok (.getfield 35, 3) := by decide +kernel
theorem dX10_round_4 : decode cX10_round 4 = .ok (.invokevirtual 106, 3) := by decide +kernel
theorem dX10_round_7 : decode cX10_round 7 = .ok (.iconst 0, 1) := by decide +kernel
theorem dX10_round_8 : decode cX10_round 8 = .ok (.istore_n 1, 1) := by decide +kernel
theorem dX10_round_9 : decode cX10_round 9 = .ok (.iload_n 1, 1) := by decide +kernel
theorem dX10_round_10 : decode cX10_round 10 = .ok (.bipush 40, 2) := by decide +kernel
theorem dX10_round_12 : decode cX10_round 12 = .ok (.if_icmp .ge 26, 3) := by decide +kernel
theorem dX10_round_15 : decode cX10_round 15 = .ok (.aload_n 0, 1) := by decide +kernel
theorem dX10_round_16 : decode cX10_round 16 = .ok (.getfield 35, 3) := by decide +kernel
theorem dX10_round_19 : decode cX10_round 19 = .ok (.aload_n 0, 1) := by decide +kernel
theorem dX10_round_20 : decode cX10_round 20 = .ok (.getfield 28, 3) := by decide +kernel
theorem dX10_round_23 : decode cX10_round 23 = .ok (.invokevirtual 109, 3) := by decide +kernel
theorem dX10_round_26 : decode cX10_round 26 = .ok (.ifCond .ne 6, 3) := by decide +kernel
theorem dX10_round_29 : decode cX10_round 29 = .ok (.goto 9, 3) := by decide +kernel
theorem dX10_round_32 : decode cX10_round 32 = .ok (.iinc 1 1, 3) := by decide +kernel
theorem dX10_round_35 : decode cX10_round 35 = .ok (.goto (-26), 3) := by decide +kernel
theorem dX10_round_38 : decode cX10_round 38 = .ok (.aload_n 0, 1) := by decide +kernel
theorem dX10_round_39 : decode cX10_round 39 = .ok (.getfield 35, 3) := by decide +kernel
theorem dX10_round_42 : decode cX10_round 42 = .ok (.getfield 113, 3) := by decide +kernel
theorem dX10_round_45 : decode cX10_round 45 = .ok (.ireturn, 1) := by decide +kernel
theorem dX10_found_0 : decode cX10_found 0 = .ok (.aload_n 0, 1) := by decide +kernel
theorem dX10_found_1 : decode cX10_found 1 = .ok (.getfield 35, 3) := by decide +kernel
theorem dX10_found_4 : decode cX10_found 4 = .ok (.iload_n 1, 1) := by decide +kernel
theorem dX10_found_5 : decode cX10_found 5 = .ok (.iload_n 2, 1) := by decide +kernel
theorem dX10_found_6 : decode cX10_found 6 = .ok (.invokevirtual 115, 3) := by decide +kernel
theorem dX10_found_9 : decode cX10_found 9 = .ok (.ireturn, 1) := by decide +kernel
theorem dX10_frames_0 : decode cX10_frames 0 = .ok (.aload_n 0, 1) := by decide +kernel
theorem dX10_frames_1 : decode cX10_frames 1 = .ok (.getfield 28, 3) := by decide +kernel
theorem dX10_frames_4 : decode cX10_frames 4 = .ok (.getfield 119, 3) := by decide +kernel
theorem dX10_frames_7 : decode cX10_frames 7 = .ok (.ireturn, 1) := by decide +kernel
theorem dJx29ce0_ordinal_8abf5_0 : decode cJx29ce0_ordinal_8abf5 0 = .ok (.aload_n 0, 1) := by decide +kernel
theorem dJx29ce0_ordinal_8abf5_1 : decode cJx29ce0_ordinal_8abf5 1 = .ok (.getfield 7, 3) := by decide +kernel
theorem dJx29ce0_ordinal_8abf5_4 : decode cJx29ce0_ordinal_8abf5 4 = .ok (.ireturn, 1) := by decide +kernel
theorem dJ6_bitCount_0f7a4_0 : decode cJ6_bitCount_0f7a4 0 = .ok (.iload_n 0, 1) := by decide +kernel
theorem dJ6_bitCount_0f7a4_1 : decode cJ6_bitCount_0f7a4 1 = .ok (.iload_n 0, 1) := by decide +kernel
theorem dJ6_bitCount_0f7a4_2 : decode cJ6_bitCount_0f7a4 2 = .ok (.iconst 1, 1) := by decide +kernel
theorem dJ6_bitCount_0f7a4_3 : decode cJ6_bitCount_0f7a4 3 = .ok (.iushr, 1) := by decide +kernel
theorem dJ6_bitCount_0f7a4_4 : decode cJ6_bitCount_0f7a4 4 = .ok (.ldc_w 265, 3) := by decide +kernel
theorem dJ6_bitCount_0f7a4_7 : decode cJ6_bitCount_0f7a4 7 = .ok (.iand, 1) := by decide +kernel
theorem dJ6_bitCount_0f7a4_8 : decode cJ6_bitCount_0f7a4 8 = .ok (.isub, 1) := by decide +kernel
theorem dJ6_bitCount_0f7a4_9 : decode cJ6_bitCount_0f7a4 9 = .ok (.istore_n 0, 1) := by decide +kernel
theorem dJ6_bitCount_0f7a4_10 : decode cJ6_bitCount_0f7a4 10 = .ok (.iload_n 0, 1) := by decide +kernel
theorem dJ6_bitCount_0f7a4_11 : decode cJ6_bitCount_0f7a4 11 = .ok (.ldc_w 266, 3) := by decide +kernel
theorem dJ6_bitCount_0f7a4_14 : decode cJ6_bitCount_0f7a4 14 = .ok (.iand, 1) := by decide +kernel
theorem dJ6_bitCount_0f7a4_15 : decode cJ6_bitCount_0f7a4 15 = .ok (.iload_n 0, 1) := by decide +kernel
theorem dJ6_bitCount_0f7a4_16 : decode cJ6_bitCount_0f7a4 16 = .ok (.iconst 2, 1) := by decide +kernel
theorem dJ6_bitCount_0f7a4_17 : decode cJ6_bitCount_0f7a4 17 = .ok (.iushr, 1) := by decide +kernel
theorem dJ6_bitCount_0f7a4_18 : decode cJ6_bitCount_0f7a4 18 = .ok (.ldc_w 266, 3) := by decide +kernel
theorem dJ6_bitCount_0f7a4_21 : decode cJ6_bitCount_0f7a4 21 = .ok (.iand, 1) := by decide +kernel
theorem dJ6_bitCount_0f7a4_22 : decode cJ6_bitCount_0f7a4 22 = .ok (.iadd, 1) := by decide +kernel
theorem dJ6_bitCount_0f7a4_23 : decode cJ6_bitCount_0f7a4 23 = .ok (.istore_n 0, 1) := by decide +kernel
theorem dJ6_bitCount_0f7a4_24 : decode cJ6_bitCount_0f7a4 24 = .ok (.iload_n 0, 1) := by decide +kernel
theorem dJ6_bitCount_0f7a4_25 : decode cJ6_bitCount_0f7a4 25 = .ok (.iload_n 0, 1) := by decide +kernel
theorem dJ6_bitCount_0f7a4_26 : decode cJ6_bitCount_0f7a4 26 = .ok (.iconst 4, 1) := by decide +kernel
theorem dJ6_bitCount_0f7a4_27 : decode cJ6_bitCount_0f7a4 27 = .ok (.iushr, 1) := by decide +kernel
theorem dJ6_bitCount_0f7a4_28 : decode cJ6_bitCount_0f7a4 28 = .ok (.iadd, 1) := by decide +kernel
theorem dJ6_bitCount_0f7a4_29 : decode cJ6_bitCount_0f7a4 29 = .ok (.ldc_w 267, 3) := by decide +kernel
theorem dJ6_bitCount_0f7a4_32 : decode cJ6_bitCount_0f7a4 32 = .ok (.iand, 1) := by decide +kernel
theorem dJ6_bitCount_0f7a4_33 : decode cJ6_bitCount_0f7a4 33 = .ok (.istore_n 0, 1) := by decide +kernel
theorem dJ6_bitCount_0f7a4_34 : decode cJ6_bitCount_0f7a4 34 = .ok (.iload_n 0, 1) := by decide +kernel
theorem dJ6_bitCount_0f7a4_35 : decode cJ6_bitCount_0f7a4 35 = .ok (.iload_n 0, 1) := by decide +kernel
theorem dJ6_bitCount_0f7a4_36 : decode cJ6_bitCount_0f7a4 36 = .ok (.bipush 8, 2) := by decide +kernel
theorem dJ6_bitCount_0f7a4_38 : decode cJ6_bitCount_0f7a4 38 = .ok (.iushr, 1) := by decide +kernel
theorem dJ6_bitCount_0f7a4_39 : decode cJ6_bitCount_0f7a4 39 = .ok (.iadd, 1) := by decide +kernel
theorem dJ6_bitCount_0f7a4_40 : decode cJ6_bitCount_0f7a4 40 = .ok (.istore_n 0, 1) := by decide +kernel
theorem dJ6_bitCount_0f7a4_41 : decode cJ6_bitCount_0f7a4 41 = .ok (.iload_n 0, 1) := by decide +kernel
theorem dJ6_bitCount_0f7a4_42 : decode cJ6_bitCount_0f7a4 42 = .ok (.iload_n 0, 1) := by decide +kernel
theorem dJ6_bitCount_0f7a4_43 : decode cJ6_bitCount_0f7a4 43 = .ok (.bipush 16, 2) := by decide +kernel
theorem dJ6_bitCount_0f7a4_45 : decode cJ6_bitCount_0f7a4 45 = .ok (.iushr, 1) := by decide +kernel
theorem dJ6_bitCount_0f7a4_46 : decode cJ6_bitCount_0f7a4 46 = .ok (.iadd, 1) := by decide +kernel
theorem dJ6_bitCount_0f7a4_47 : decode cJ6_bitCount_0f7a4 47 = .ok (.istore_n 0, 1) := by decide +kernel
theorem dJ6_bitCount_0f7a4_48 : decode cJ6_bitCount_0f7a4 48 = .ok (.iload_n 0, 1) := by decide +kernel
theorem dJ6_bitCount_0f7a4_49 : decode cJ6_bitCount_0f7a4 49 = .ok (.bipush 63, 2) := by decide +kernel
theorem dJ6_bitCount_0f7a4_51 : decode cJ6_bitCount_0f7a4 51 = .ok (.iand, 1) := by decide +kernel
theorem dJ6_bitCount_0f7a4_52 : decode cJ6_bitCount_0f7a4 52 = .ok (.ireturn, 1) := by decide +kernel
theorem dJ13_bitCount_95d88_0 : decode cJ13_bitCount_95d88 0 = .ok (.lload_n 0, 1) := by decide +kernel
theorem dJ13_bitCount_95d88_1 : decode cJ13_bitCount_95d88 1 = .ok (.lload_n 0, 1) := by decide +kernel
theorem dJ13_bitCount_95d88_2 : decode cJ13_bitCount_95d88 2 = .ok (.iconst 1, 1) := by decide +kernel
theorem dJ13_bitCount_95d88_3 : decode cJ13_bitCount_95d88 3 = .ok (.lushr, 1) := by decide +kernel
theorem dJ13_bitCount_95d88_4 : decode cJ13_bitCount_95d88 4 = .ok (.ldc2_w 314, 3) := by decide +kernel
theorem dJ13_bitCount_95d88_7 : decode cJ13_bitCount_95d88 7 = .ok (.land, 1) := by decide +kernel
theorem dJ13_bitCount_95d88_8 : decode cJ13_bitCount_95d88 8 = .ok (.lsub, 1) := by decide +kernel
theorem dJ13_bitCount_95d88_9 : decode cJ13_bitCount_95d88 9 = .ok (.lstore_n 0, 1) := by decide +kernel
theorem dJ13_bitCount_95d88_10 : decode cJ13_bitCount_95d88 10 = .ok (.lload_n 0, 1) := by decide +kernel
theorem dJ13_bitCount_95d88_11 : decode cJ13_bitCount_95d88 11 = .ok (.ldc2_w 316, 3) := by decide +kernel
theorem dJ13_bitCount_95d88_14 : decode cJ13_bitCount_95d88 14 = .ok (.land, 1) := by decide +kernel
theorem dJ13_bitCount_95d88_15 : decode cJ13_bitCount_95d88 15 = .ok (.lload_n 0, 1) := by decide +kernel
theorem dJ13_bitCount_95d88_16 : decode cJ13_bitCount_95d88 16 = .ok (.iconst 2, 1) := by decide +kernel
theorem dJ13_bitCount_95d88_17 : decode cJ13_bitCount_95d88 17 = .ok (.lushr, 1) := by decide +kernel
theorem dJ13_bitCount_95d88_18 : decode cJ13_bitCount_95d88 18 = .ok (.ldc2_w 316, 3) := by decide +kernel
theorem dJ13_bitCount_95d88_21 : decode cJ13_bitCount_95d88 21 = .ok (.land, 1) := by decide +kernel
theorem dJ13_bitCount_95d88_22 : decode cJ13_bitCount_95d88 22 = .ok (.ladd, 1) := by decide +kernel
theorem dJ13_bitCount_95d88_23 : decode cJ13_bitCount_95d88 23 = .ok (.lstore_n 0, 1) := by decide +kernel
theorem dJ13_bitCount_95d88_24 : decode cJ13_bitCount_95d88 24 = .ok (.lload_n 0, 1) := by decide +kernel
theorem dJ13_bitCount_95d88_25 : decode cJ13_bitCount_95d88 25 = .ok (.lload_n 0, 1) := by decide +kernel
theorem dJ13_bitCount_95d88_26 : decode cJ13_bitCount_95d88 26 = .ok (.iconst 4, 1) := by decide +kernel
theorem dJ13_bitCount_95d88_27 : decode cJ13_bitCount_95d88 27 = .ok (.lushr, 1) := by decide +kernel
theorem dJ13_bitCount_95d88_28 : decode cJ13_bitCount_95d88 28 = .ok (.ladd, 1) := by decide +kernel
theorem dJ13_bitCount_95d88_29 : decode cJ13_bitCount_95d88 29 = .ok (.ldc2_w 318, 3) := by decide +kernel
theorem dJ13_bitCount_95d88_32 : decode cJ13_bitCount_95d88 32 = .ok (.land, 1) := by decide +kernel
theorem dJ13_bitCount_95d88_33 : decode cJ13_bitCount_95d88 33 = .ok (.lstore_n 0, 1) := by decide +kernel
theorem dJ13_bitCount_95d88_34 : decode cJ13_bitCount_95d88 34 = .ok (.lload_n 0, 1) := by decide +kernel
theorem dJ13_bitCount_95d88_35 : decode cJ13_bitCount_95d88 35 = .ok (.lload_n 0, 1) := by decide +kernel
theorem dJ13_bitCount_95d88_36 : decode cJ13_bitCount_95d88 36 = .ok (.bipush 8, 2) := by decide +kernel
theorem dJ13_bitCount_95d88_38 : decode cJ13_bitCount_95d88 38 = .ok (.lushr, 1) := by decide +kernel
theorem dJ13_bitCount_95d88_39 : decode cJ13_bitCount_95d88 39 = .ok (.ladd, 1) := by decide +kernel
theorem dJ13_bitCount_95d88_40 : decode cJ13_bitCount_95d88 40 = .ok (.lstore_n 0, 1) := by decide +kernel
theorem dJ13_bitCount_95d88_41 : decode cJ13_bitCount_95d88 41 = .ok (.lload_n 0, 1) := by decide +kernel
theorem dJ13_bitCount_95d88_42 : decode cJ13_bitCount_95d88 42 = .ok (.lload_n 0, 1) := by decide +kernel
theorem dJ13_bitCount_95d88_43 : decode cJ13_bitCount_95d88 43 = .ok (.bipush 16, 2) := by decide +kernel
theorem dJ13_bitCount_95d88_45 : decode cJ13_bitCount_95d88 45 = .ok (.lushr, 1) := by decide +kernel
theorem dJ13_bitCount_95d88_46 : decode cJ13_bitCount_95d88 46 = .ok (.ladd, 1) := by decide +kernel
theorem dJ13_bitCount_95d88_47 : decode cJ13_bitCount_95d88 47 = .ok (.lstore_n 0, 1) := by decide +kernel
theorem dJ13_bitCount_95d88_48 : decode cJ13_bitCount_95d88 48 = .ok (.lload_n 0, 1) := by decide +kernel
theorem dJ13_bitCount_95d88_49 : decode cJ13_bitCount_95d88 49 = .ok (.lload_n 0, 1) := by decide +kernel
theorem dJ13_bitCount_95d88_50 : decode cJ13_bitCount_95d88 50 = .ok (.bipush 32, 2) := by decide +kernel
theorem dJ13_bitCount_95d88_52 : decode cJ13_bitCount_95d88 52 = .ok (.lushr, 1) := by decide +kernel
theorem dJ13_bitCount_95d88_53 : decode cJ13_bitCount_95d88 53 = .ok (.ladd, 1) := by decide +kernel
theorem dJ13_bitCount_95d88_54 : decode cJ13_bitCount_95d88 54 = .ok (.lstore_n 0, 1) := by decide +kernel
theorem dJ13_bitCount_95d88_55 : decode cJ13_bitCount_95d88 55 = .ok (.lload_n 0, 1) := by decide +kernel
theorem dJ13_bitCount_95d88_56 : decode cJ13_bitCount_95d88 56 = .ok (.l2i, 1) := by decide +kernel
theorem dJ13_bitCount_95d88_57 : decode cJ13_bitCount_95d88 57 = .ok (.bipush 127, 2) := by decide +kernel
theorem dJ13_bitCount_95d88_59 : decode cJ13_bitCount_95d88 59 = .ok (.iand, 1) := by decide +kernel
theorem dJ13_bitCount_95d88_60 : decode cJ13_bitCount_95d88 60 = .ok (.ireturn, 1) := by decide +kernel
theorem dJ9_max_7cf53_0 : decode cJ9_max_7cf53 0 = .ok (.iload_n 0, 1) := by decide +kernel
theorem dJ9_max_7cf53_1 : decode cJ9_max_7cf53 1 = .ok (.iload_n 1, 1) := by decide +kernel
theorem dJ9_max_7cf53_2 : decode cJ9_max_7cf53 2 = .ok (.if_icmp .lt 7, 3) := by decide +kernel
theorem dJ9_max_7cf53_5 : decode cJ9_max_7cf53 5 = .ok (.iload_n 0, 1) := by decide +kernel
theorem dJ9_max_7cf53_6 : decode cJ9_max_7cf53 6 = .ok (.goto 4, 3) := by decide +kernel
theorem dJ9_max_7cf53_9 : decode cJ9_max_7cf53 9 = .ok (.iload_n 1, 1) := by decide +kernel
theorem dJ9_max_7cf53_10 : decode cJ9_max_7cf53 10 = .ok (.ireturn, 1) := by decide +kernel
theorem dJ9_min_7cf53_0 : decode cJ9_min_7cf53 0 = .ok (.iload_n 0, 1) := by decide +kernel
theorem dJ9_min_7cf53_1 : decode cJ9_min_7cf53 1 = .ok (.iload_n 1, 1) := by decide +kernel
theorem dJ9_min_7cf53_2 : decode cJ9_min_7cf53 2 = .ok (.if_icmp .gt 7, 3) := by decide +kernel
theorem dJ9_min_7cf53_5 : decode cJ9_min_7cf53 5 = .ok (.iload_n 0, 1) := by decide +kernel
theorem dJ9_min_7cf53_6 : decode cJ9_min_7cf53 6 = .ok (.goto 4, 3) := by decide +kernel
theorem dJ9_min_7cf53_9 : decode cJ9_min_7cf53 9 = .ok (.iload_n 1, 1) := by decide +kernel
theorem dJ9_min_7cf53_10 : decode cJ9_min_7cf53 10 = .ok (.ireturn, 1) := by decide +kernel
theorem dJxa1e45_init_da8c8_0 : decode cJxa1e45_init_da8c8 0 = .ok (.aload_n 0, 1) := by decide +kernel
theorem dJxa1e45_init_da8c8_1 : decode cJxa1e45_init_da8c8 1 = .ok (.invokespecial 1, 3) := by decide +kernel
theorem dJxa1e45_init_da8c8_4 : decode cJxa1e45_init_da8c8 4 = .ok (.return_, 1) := by decide +kernel
theorem dJxc12de_init_da8c8_0 : decode cJxc12de_init_da8c8 0 = .ok (.aload_n 0, 1) := by decide +kernel
theorem dJxc12de_init_da8c8_1 : decode cJxc12de_init_da8c8 1 = .ok (.invokespecial 1, 3) := by decide +kernel
theorem dJxc12de_init_da8c8_4 : decode cJxc12de_init_da8c8 4 = .ok (.aload_n 0, 1) := by decide +kernel
theorem dJxc12de_init_da8c8_5 : decode cJxc12de_init_da8c8 5 = .ok (.iconst 0, 1) := by decide +kernel
theorem dJxc12de_init_da8c8_6 : decode cJxc12de_init_da8c8 6 = .ok (.putfield 7, 3) := by decide +kernel
theorem dJxc12de_init_da8c8_9 : decode cJxc12de_init_da8c8 9 = .ok (.return_, 1) := by decide +kernel
theorem dJx4a65c_init_da8c8_0 : decode cJx4a65c_init_da8c8 0 = .ok (.aload_n 0, 1) := by decide +kernel
theorem dJx4a65c_init_da8c8_1 : decode cJx4a65c_init_da8c8 1 = .ok (.invokespecial 1, 3) := by decide +kernel
theorem dJx4a65c_init_da8c8_4 : decode cJx4a65c_init_da8c8 4 = .ok (.aload_n 0, 1) := by decide +kernel
theorem dJx4a65c_init_da8c8_5 : decode cJx4a65c_init_da8c8 5 = .ok (.getstatic 39, 3) := by decide +kernel
theorem dJx4a65c_init_da8c8_8 : decode cJx4a65c_init_da8c8 8 = .ok (.putfield 9, 3) := by decide +kernel
theorem dJx4a65c_init_da8c8_11 : decode cJx4a65c_init_da8c8 11 = .ok (.return_, 1) := by decide +kernel
theorem dJx4a65c_grow_92f84_0 : decode cJx4a65c_grow_92f84 0 = .ok (.aload_n 0, 1) := by decide +kernel
theorem dJx4a65c_grow_92f84_1 : decode cJx4a65c_grow_92f84 1 = .ok (.getfield 9, 3) := by decide +kernel
theorem dJx4a65c_grow_92f84_4 : decode cJx4a65c_grow_92f84 4 = .ok (.arraylength, 1) := by decide +kernel
theorem dJx4a65c_grow_92f84_5 : decode cJx4a65c_grow_92f84 5 = .ok (.istore_n 2, 1) := by decide +kernel
theorem dJx4a65c_grow_92f84_6 : decode cJx4a65c_grow_92f84 6 = .ok (.iload_n 2, 1) := by decide +kernel
theorem dJx4a65c_grow_92f84_7 : decode cJx4a65c_grow_92f84 7 = .ok (.ifCond .gt 13, 3) := by decide +kernel
theorem dJx4a65c_grow_92f84_10 : decode cJx4a65c_grow_92f84 10 = .ok (.aload_n 0, 1) := by decide +kernel
theorem dJx4a65c_grow_92f84_11 : decode cJx4a65c_grow_92f84 11 = .ok (.getfield 9, 3) := by decide +kernel
theorem dJx4a65c_grow_92f84_14 : decode cJx4a65c_grow_92f84 14 = .ok (.getstatic 39, 3) := by decide +kernel
theorem dJx4a65c_grow_92f84_17 : decode cJx4a65c_grow_92f84 17 = .ok (.if_acmp .eq 28, 3) := by decide +kernel
theorem dJx4a65c_grow_92f84_20 : decode cJx4a65c_grow_92f84 20 = .ok (.iload_n 2, 1) := by decide +kernel
theorem dJx4a65c_grow_92f84_21 : decode cJx4a65c_grow_92f84 21 = .ok (.iload_n 1, 1) := by decide +kernel
theorem dJx4a65c_grow_92f84_22 : decode cJx4a65c_grow_92f84 22 = .ok (.iload_n 2, 1) := by decide +kernel
theorem dJx4a65c_grow_92f84_23 : decode cJx4a65c_grow_92f84 23 = .ok (.isub, 1) := by decide +kernel
theorem dJx4a65c_grow_92f84_24 : decode cJx4a65c_grow_92f84 24 = .ok (.iload_n 2, 1) := by decide +kernel
theorem dJx4a65c_grow_92f84_25 : decode cJx4a65c_grow_92f84 25 = .ok (.iconst 1, 1) := by decide +kernel
theorem dJx4a65c_grow_92f84_26 : decode cJx4a65c_grow_92f84 26 = .ok (.ishr, 1) := by decide +kernel
theorem dJx4a65c_grow_92f84_27 : decode cJx4a65c_grow_92f84 27 = .ok (.invokestatic 73, 3) := by decide +kernel
theorem dJx4a65c_grow_92f84_30 : decode cJx4a65c_grow_92f84 30 = .ok (.istore_n 3, 1) := by decide +kernel
theorem dJx4a65c_grow_92f84_31 : decode cJx4a65c_grow_92f84 31 = .ok (.aload_n 0, 1) := by decide +kernel
theorem dJx4a65c_grow_92f84_32 : decode cJx4a65c_grow_92f84 32 = .ok (.aload_n 0, 1) := by decide +kernel
theorem dJx4a65c_grow_92f84_33 : decode cJx4a65c_grow_92f84 33 = .ok (.getfield 9, 3) := by decide +kernel
theorem dJx4a65c_grow_92f84_36 : decode cJx4a65c_grow_92f84 36 = .ok (.iload_n 3, 1) := by decide +kernel
theorem dJx4a65c_grow_92f84_37 : decode cJx4a65c_grow_92f84 37 = .ok (.invokestatic 66, 3) := by decide +kernel
theorem dJx4a65c_grow_92f84_40 : decode cJx4a65c_grow_92f84 40 = .ok (.dup_x1, 1) := by decide +kernel
theorem dJx4a65c_grow_92f84_41 : decode cJx4a65c_grow_92f84 41 = .ok (.putfield 9, 3) := by decide +kernel
theorem dJx4a65c_grow_92f84_44 : decode cJx4a65c_grow_92f84 44 = .ok (.areturn, 1) := by decide +kernel
theorem dJx4a65c_grow_92f84_45 : decode cJx4a65c_grow_92f84 45 = .ok (.aload_n 0, 1) := by decide +kernel
theorem dJx4a65c_grow_92f84_46 : decode cJx4a65c_grow_92f84 46 = .ok (.bipush 10, 2) := by decide +kernel
theorem dJx4a65c_grow_92f84_48 : decode cJx4a65c_grow_92f84 48 = .ok (.iload_n 1, 1) := by decide +kernel
theorem dJx4a65c_grow_92f84_49 : decode cJx4a65c_grow_92f84 49 = .ok (.invokestatic 79, 3) := by decide +kernel
theorem dJx4a65c_grow_92f84_52 : decode cJx4a65c_grow_92f84 52 = .ok (.anewarray 7, 3) := by decide +kernel
theorem dJx4a65c_grow_92f84_55 : decode cJx4a65c_grow_92f84 55 = .ok (.dup_x1, 1) := by decide +kernel
theorem dJx4a65c_grow_92f84_56 : decode cJx4a65c_grow_92f84 56 = .ok (.putfield 9, 3) := by decide +kernel
theorem dJx4a65c_grow_92f84_59 : decode cJx4a65c_grow_92f84 59 = .ok (.areturn, 1) := by decide +kernel
theorem dJx4a65c_grow_d5877_0 : decode cJx4a65c_grow_d5877 0 = .ok (.aload_n 0, 1) := by decide +kernel
theorem dJx4a65c_grow_d5877_1 : decode cJx4a65c_grow_d5877 1 = .ok (.aload_n 0, 1) := by decide +kernel
theorem dJx4a65c_grow_d5877_2 : decode cJx4a65c_grow_d5877 2 = .ok (.getfield 48, 3) := by decide +kernel
theorem dJx4a65c_grow_d5877_5 : decode cJx4a65c_grow_d5877 5 = .ok (.iconst 1, 1) := by decide +kernel
theorem dJx4a65c_grow_d5877_6 : decode cJx4a65c_grow_d5877 6 = .ok (.iadd, 1) := by decide +kernel
theorem dJx4a65c_grow_d5877_7 : decode cJx4a65c_grow_d5877 7 = .ok (.invokevirtual 69, 3) := by decide +kernel
theorem dJx4a65c_grow_d5877_10 : decode cJx4a65c_grow_d5877 10 = .ok (.areturn, 1) := by decide +kernel
theorem dJx4a65c_size_8abf5_0 : decode cJx4a65c_size_8abf5 0 = .ok (.aload_n 0, 1) := by decide +kernel
theorem dJx4a65c_size_8abf5_1 : decode cJx4a65c_size_8abf5 1 = .ok (.getfield 48, 3) := by decide +kernel
theorem dJx4a65c_size_8abf5_4 : decode cJx4a65c_size_8abf5 4 = .ok (.ireturn, 1) := by decide +kernel
theorem dJx4a65c_elementData_915e3_0 : decode cJx4a65c_elementData_915e3 0 = .ok (.aload_n 0, 1) := by decide +kernel
theorem dJx4a65c_elementData_915e3_1 : decode cJx4a65c_elementData_915e3 1 = .ok (.getfield 9, 3) := by decide +kernel
theorem dJx4a65c_elementData_915e3_4 : decode cJx4a65c_elementData_915e3 4 = .ok (.iload_n 1, 1) := by decide +kernel
theorem dJx4a65c_elementData_915e3_5 : decode cJx4a65c_elementData_915e3 5 = .ok (.aaload, 1) := by decide +kernel
theorem dJx4a65c_elementData_915e3_6 : decode cJx4a65c_elementData_915e3 6 = .ok (.areturn, 1) := by decide +kernel
theorem dJx4a65c_get_915e3_0 : decode cJx4a65c_get_915e3 0 = .ok (.iload_n 1, 1) := by decide +kernel
theorem dJx4a65c_get_915e3_1 : decode cJx4a65c_get_915e3 1 = .ok (.aload_n 0, 1) := by decide +kernel
theorem dJx4a65c_get_915e3_2 : decode cJx4a65c_get_915e3 2 = .ok (.getfield 48, 3) := by decide +kernel
theorem dJx4a65c_get_915e3_5 : decode cJx4a65c_get_915e3 5 = .ok (.invokestatic 118, 3) := by decide +kernel
theorem dJx4a65c_get_915e3_8 : decode cJx4a65c_get_915e3 8 = .ok (.pop, 1) := by decide +kernel
theorem dJx4a65c_get_915e3_9 : decode cJx4a65c_get_915e3 9 = .ok (.aload_n 0, 1) := by decide +kernel
theorem dJx4a65c_get_915e3_10 : decode cJx4a65c_get_915e3 10 = .ok (.iload_n 1, 1) := by decide +kernel
theorem dJx4a65c_get_915e3_11 : decode cJx4a65c_get_915e3 11 = .ok (.invokevirtual 123, 3) := by decide +kernel
theorem dJx4a65c_get_915e3_14 : decode cJx4a65c_get_915e3 14 = .ok (.areturn, 1) := by decide +kernel
theorem dJx4a65c_add_72be8_0 : decode cJx4a65c_add_72be8 0 = .ok (.iload_n 3, 1) := by decide +kernel
theorem dJx4a65c_add_72be8_1 : decode cJx4a65c_add_72be8 1 = .ok (.aload_n 2, 1) := by decide +kernel
theorem dJx4a65c_add_72be8_2 : decode cJx4a65c_add_72be8 2 = .ok (.arraylength, 1) := by decide +kernel
theorem dJx4a65c_add_72be8_3 : decode cJx4a65c_add_72be8 3 = .ok (.if_icmp .ne 8, 3) := by decide +kernel
theorem dJx4a65c_add_72be8_6 : decode cJx4a65c_add_72be8 6 = .ok (.aload_n 0, 1) := by decide +kernel
theorem dJx4a65c_add_72be8_7 : decode cJx4a65c_add_72be8 7 = .ok (.invokevirtual 129, 3) := by decide +kernel
theorem dJx4a65c_add_72be8_10 : decode cJx4a65c_add_72be8 10 = .ok (.astore_n 2, 1) := by decide +kernel
theorem dJx4a65c_add_72be8_11 : decode cJx4a65c_add_72be8 11 = .ok (.aload_n 2, 1) := by decide +kernel
theorem dJx4a65c_add_72be8_12 : decode cJx4a65c_add_72be8 12 = .ok (.iload_n 3, 1) := by decide +kernel
theorem dJx4a65c_add_72be8_13 : decode cJx4a65c_add_72be8 13 = .ok (.aload_n 1, 1) := by decide +kernel
theorem dJx4a65c_add_72be8_14 : decode cJx4a65c_add_72be8 14 = .ok (.aastore, 1) := by decide +kernel
theorem dJx4a65c_add_72be8_15 : decode cJx4a65c_add_72be8 15 = .ok (.aload_n 0, 1) := by decide +kernel
theorem dJx4a65c_add_72be8_16 : decode cJx4a65c_add_72be8 16 = .ok (.iload_n 3, 1) := by decide +kernel
theorem dJx4a65c_add_72be8_17 : decode cJx4a65c_add_72be8 17 = .ok (.iconst 1, 1) := by decide +kernel
theorem dJx4a65c_add_72be8_18 : decode cJx4a65c_add_72be8 18 = .ok (.iadd, 1) := by decide +kernel
theorem dJx4a65c_add_72be8_19 : decode cJx4a65c_add_72be8 19 = .ok (.putfield 48, 3) := by decide +kernel
theorem dJx4a65c_add_72be8_22 : decode cJx4a65c_add_72be8 22 = .ok (.return_, 1) := by decide +kernel
theorem dJx4a65c_add_9ea2d_0 : decode cJx4a65c_add_9ea2d 0 = .ok (.aload_n 0, 1) := by decide +kernel
theorem dJx4a65c_add_9ea2d_1 : decode cJx4a65c_add_9ea2d 1 = .ok (.dup, 1) := by decide +kernel
theorem dJx4a65c_add_9ea2d_2 : decode cJx4a65c_add_9ea2d 2 = .ok (.getfield 63, 3) := by decide +kernel
theorem dJx4a65c_add_9ea2d_5 : decode cJx4a65c_add_9ea2d 5 = .ok (.iconst 1, 1) := by decide +kernel
theorem dJx4a65c_add_9ea2d_6 : decode cJx4a65c_add_9ea2d 6 = .ok (.iadd, 1) := by decide +kernel
theorem dJx4a65c_add_9ea2d_7 : decode cJx4a65c_add_9ea2d 7 = .ok (.putfield 63, 3) := by decide +kernel
theorem dJx4a65c_add_9ea2d_10 : decode cJx4a65c_add_9ea2d 10 = .ok (.aload_n 0, 1) := by decide +kernel
theorem dJx4a65c_add_9ea2d_11 : decode cJx4a65c_add_9ea2d 11 = .ok (.aload_n 1, 1) := by decide +kernel
theorem dJx4a65c_add_9ea2d_12 : decode cJx4a65c_add_9ea2d 12 = .ok (.aload_n 0, 1) := by decide +kernel
theorem dJx4a65c_add_9ea2d_13 : decode cJx4a65c_add_9ea2d 13 = .ok (.getfield 9, 3) := by decide +kernel
theorem dJx4a65c_add_9ea2d_16 : decode cJx4a65c_add_9ea2d 16 = .ok (.aload_n 0, 1) := by decide +kernel
theorem dJx4a65c_add_9ea2d_17 : decode cJx4a65c_add_9ea2d 17 = .ok (.getfield 48, 3) := by decide +kernel
theorem dJx4a65c_add_9ea2d_20 : decode cJx4a65c_add_9ea2d 20 = .ok (.invokevirtual 131, 3) := by decide +kernel
theorem dJx4a65c_add_9ea2d_23 : decode cJx4a65c_add_9ea2d 23 = .ok (.iconst 1, 1) := by decide +kernel
theorem dJx4a65c_add_9ea2d_24 : decode cJx4a65c_add_9ea2d 24 = .ok (.ireturn, 1) := by decide +kernel
theorem dJ7_copyOf_1904c_0 : decode cJ7_copyOf_1904c 0 = .ok (.aload_n 0, 1) := by decide +kernel
theorem dJ7_copyOf_1904c_1 : decode cJ7_copyOf_1904c 1 = .ok (.iload_n 1, 1) := by decide +kernel
theorem dJ7_copyOf_1904c_2 : decode cJ7_copyOf_1904c 2 = .ok (.aload_n 0, 1) := by decide +kernel
theorem dJ7_copyOf_1904c_3 : decode cJ7_copyOf_1904c 3 = .ok (.invokevirtual 86, 3) := by decide +kernel
theorem dJ7_copyOf_1904c_6 : decode cJ7_copyOf_1904c 6 = .ok (.invokestatic 300, 3) := by decide +kernel
theorem dJ7_copyOf_1904c_9 : decode cJ7_copyOf_1904c 9 = .ok (.areturn, 1) := by decide +kernel
theorem dJ7_copyOf_6403c_0 : decode cJ7_copyOf_6403c 0 = .ok (.aload_n 2, 1) := by decide +kernel
theorem dJ7_copyOf_6403c_1 : decode cJ7_copyOf_6403c 1 = .ok (.ldc 110, 2) := by decide +kernel
theorem dJ7_copyOf_6403c_3 : decode cJ7_copyOf_6403c 3 = .ok (.if_acmp .ne 10, 3) := by decide +kernel
theorem dJ7_copyOf_6403c_6 : decode cJ7_copyOf_6403c 6 = .ok (.iload_n 1, 1) := by decide +kernel
theorem dJ7_copyOf_6403c_7 : decode cJ7_copyOf_6403c 7 = .ok (.anewarray 2, 3) := by decide +kernel
theorem dJ7_copyOf_6403c_10 : decode cJ7_copyOf_6403c 10 = .ok (.goto 14, 3) := by decide +kernel
theorem dJ7_copyOf_6403c_13 : decode cJ7_copyOf_6403c 13 = .ok (.aload_n 2, 1) := by decide +kernel
theorem dJ7_copyOf_6403c_14 : decode cJ7_copyOf_6403c 14 = .ok (.invokevirtual 90, 3) := by decide +kernel
theorem dJ7_copyOf_6403c_17 : decode cJ7_copyOf_6403c 17 = .ok (.iload_n 1, 1) := by decide +kernel
theorem dJ7_copyOf_6403c_18 : decode cJ7_copyOf_6403c 18 = .ok (.invokestatic 95, 3) := by decide +kernel
theorem dJ7_copyOf_6403c_21 : decode cJ7_copyOf_6403c 21 = .ok (.checkcast 110, 3) := by decide +kernel
theorem dJ7_copyOf_6403c_24 : decode cJ7_copyOf_6403c 24 = .ok (.astore_n 3, 1) := by decide +kernel
theorem dJ7_copyOf_6403c_25 : decode cJ7_copyOf_6403c 25 = .ok (.aload_n 0, 1) := by decide +kernel
theorem dJ7_copyOf_6403c_26 : decode cJ7_copyOf_6403c 26 = .ok (.iconst 0, 1) := by decide +kernel
theorem dJ7_copyOf_6403c_27 : decode cJ7_copyOf_6403c 27 = .ok (.aload_n 3, 1) := by decide +kernel
theorem dJ7_copyOf_6403c_28 : decode cJ7_copyOf_6403c 28 = .ok (.iconst 0, 1) := by decide +kernel
theorem dJ7_copyOf_6403c_29 : decode cJ7_copyOf_6403c 29 = .ok (.aload_n 0, 1) := by decide +kernel
theorem dJ7_copyOf_6403c_30 : decode cJ7_copyOf_6403c 30 = .ok (.arraylength, 1) := by decide +kernel
theorem dJ7_copyOf_6403c_31 : decode cJ7_copyOf_6403c 31 = .ok (.iload_n 1, 1) := by decide +kernel
theorem dJ7_copyOf_6403c_32 : decode cJ7_copyOf_6403c 32 = .ok (.invokestatic 304, 3) := by decide +kernel
theorem dJ7_copyOf_6403c_35 : decode cJ7_copyOf_6403c 35 = .ok (.invokestatic 150, 3) := by decide +kernel
theorem dJ7_copyOf_6403c_38 : decode cJ7_copyOf_6403c 38 = .ok (.aload_n 3, 1) := by decide +kernel
theorem dJ7_copyOf_6403c_39 : decode cJ7_copyOf_6403c 39 = .ok (.areturn, 1) := by decide +kernel
theorem dJ15_checkIndex_7cf53_0 : decode cJ15_checkIndex_7cf53 0 = .ok (.iload_n 0, 1) := by decide +kernel
theorem dJ15_checkIndex_7cf53_1 : decode cJ15_checkIndex_7cf53 1 = .ok (.iload_n 1, 1) := by decide +kernel
theorem dJ15_checkIndex_7cf53_2 : decode cJ15_checkIndex_7cf53 2 = .ok (.aconst_null, 1) := by decide +kernel
theorem dJ15_checkIndex_7cf53_3 : decode cJ15_checkIndex_7cf53 3 = .ok (.invokestatic 105, 3) := by decide +kernel
theorem dJ15_checkIndex_7cf53_6 : decode cJ15_checkIndex_7cf53 6 = .ok (.ireturn, 1) := by decide +kernel
theorem dJ8_newLength_cabcc_0 : decode cJ8_newLength_cabcc 0 = .ok (.iload_n 0, 1) := by decide +kernel
theorem dJ8_newLength_cabcc_1 : decode cJ8_newLength_cabcc 1 = .ok (.iload_n 1, 1) := by decide +kernel
theorem dJ8_newLength_cabcc_2 : decode cJ8_newLength_cabcc 2 = .ok (.iload_n 2, 1) := by decide +kernel
theorem dJ8_newLength_cabcc_3 : decode cJ8_newLength_cabcc 3 = .ok (.invokestatic 194, 3) := by decide +kernel
theorem dJ8_newLength_cabcc_6 : decode cJ8_newLength_cabcc 6 = .ok (.iadd, 1) := by decide +kernel
theorem dJ8_newLength_cabcc_7 : decode cJ8_newLength_cabcc 7 = .ok (.istore_n 3, 1) := by decide +kernel
theorem dJ8_newLength_cabcc_8 : decode cJ8_newLength_cabcc 8 = .ok (.iconst 0, 1) := by decide +kernel
theorem dJ8_newLength_cabcc_9 : decode cJ8_newLength_cabcc 9 = .ok (.iload_n 3, 1) := by decide +kernel
theorem dJ8_newLength_cabcc_10 : decode cJ8_newLength_cabcc 10 = .ok (.if_icmp .ge 11, 3) := by decide +kernel
theorem dJ8_newLength_cabcc_13 : decode cJ8_newLength_cabcc 13 = .ok (.iload_n 3, 1) := by decide +kernel
theorem dJ8_newLength_cabcc_14 : decode cJ8_newLength_cabcc 14 = .ok (.ldc 200, 2) := by decide +kernel
theorem dJ8_newLength_cabcc_16 : decode cJ8_newLength_cabcc 16 = .ok (.if_icmp .gt 5, 3) := by decide +kernel
theorem dJ8_newLength_cabcc_19 : decode cJ8_newLength_cabcc 19 = .ok (.iload_n 3, 1) := by decide +kernel
theorem dJ8_newLength_cabcc_20 : decode cJ8_newLength_cabcc 20 = .ok (.ireturn, 1) := by decide +kernel
theorem dJ8_newLength_cabcc_21 : decode cJ8_newLength_cabcc 21 = .ok (.iload_n 0, 1) := by decide +kernel
theorem dJ8_newLength_cabcc_22 : decode cJ8_newLength_cabcc 22 = .ok (.iload_n 1, 1) := by decide +kernel
theorem dJ8_newLength_cabcc_23 : decode cJ8_newLength_cabcc 23 = .ok (.invokestatic 201, 3) := by decide +kernel
theorem dJ8_newLength_cabcc_26 : decode cJ8_newLength_cabcc 26 = .ok (.ireturn, 1) := by decide +kernel
theorem dJ8_hugeLength_7cf53_0 : decode cJ8_hugeLength_7cf53 0 = .ok (.iload_n 0, 1) := by decide +kernel
theorem dJ8_hugeLength_7cf53_1 : decode cJ8_hugeLength_7cf53 1 = .ok (.iload_n 1, 1) := by decide +kernel
theorem dJ8_hugeLength_7cf53_2 : decode cJ8_hugeLength_7cf53 2 = .ok (.iadd, 1) := by decide +kernel
theorem dJ8_hugeLength_7cf53_3 : decode cJ8_hugeLength_7cf53 3 = .ok (.istore_n 2, 1) := by decide +kernel
theorem dJ8_hugeLength_7cf53_4 : decode cJ8_hugeLength_7cf53 4 = .ok (.iload_n 2, 1) := by decide +kernel
theorem dJ8_hugeLength_7cf53_5 : decode cJ8_hugeLength_7cf53 5 = .ok (.ifCond .ge 44, 3) := by decide +kernel
theorem dJ8_hugeLength_7cf53_8 : decode cJ8_hugeLength_7cf53 8 = .ok (.new 204, 3) := by decide +kernel
theorem dJ8_hugeLength_7cf53_11 : decode cJ8_hugeLength_7cf53 11 = .ok (.dup, 1) := by decide +kernel
theorem dJ8_hugeLength_7cf53_12 : decode cJ8_hugeLength_7cf53 12 = .ok (.new 89, 3) := by decide +kernel
theorem dJ8_hugeLength_7cf53_15 : decode cJ8_hugeLength_7cf53 15 = .ok (.dup, 1) := by decide +kernel
theorem dJ8_hugeLength_7cf53_16 : decode cJ8_hugeLength_7cf53 16 = .ok (.invokespecial 91, 3) := by decide +kernel
theorem dJ8_hugeLength_7cf53_19 : decode cJ8_hugeLength_7cf53 19 = .ok (.ldc 206, 2) := by decide +kernel
theorem dJ8_hugeLength_7cf53_21 : decode cJ8_hugeLength_7cf53 21 = .ok (.invokevirtual 94, 3) := by decide +kernel
theorem dJ8_hugeLength_7cf53_24 : decode cJ8_hugeLength_7cf53 24 = .ok (.iload_n 0, 1) := by decide +kernel
theorem dJ8_hugeLength_7cf53_25 : decode cJ8_hugeLength_7cf53 25 = .ok (.invokevirtual 98, 3) := by decide +kernel
theorem dJ8_hugeLength_7cf53_28 : decode cJ8_hugeLength_7cf53 28 = .ok (.ldc 208, 2) := by decide +kernel
theorem dJ8_hugeLength_7cf53_30 : decode cJ8_hugeLength_7cf53 30 = .ok (.invokevirtual 94, 3) := by decide +kernel
theorem dJ8_hugeLength_7cf53_33 : decode cJ8_hugeLength_7cf53 33 = .ok (.iload_n 1, 1) := by decide +kernel
theorem dJ8_hugeLength_7cf53_34 : decode cJ8_hugeLength_7cf53 34 = .ok (.invokevirtual 98, 3) := by decide +kernel
theorem dJ8_hugeLength_7cf53_37 : decode cJ8_hugeLength_7cf53 37 = .ok (.ldc 210, 2) := by decide +kernel
theorem dJ8_hugeLength_7cf53_39 : decode cJ8_hugeLength_7cf53 39 = .ok (.invokevirtual 94, 3) := by decide +kernel
theorem dJ8_hugeLength_7cf53_42 : decode cJ8_hugeLength_7cf53 42 = .ok (.invokevirtual 101, 3) := by decide +kernel
theorem dJ8_hugeLength_7cf53_45 : decode cJ8_hugeLength_7cf53 45 = .ok (.invokespecial 212, 3) := by decide +kernel
theorem dJ8_hugeLength_7cf53_48 : decode cJ8_hugeLength_7cf53 48 = .ok (.athrow, 1) := by decide +kernel
theorem dJ8_hugeLength_7cf53_49 : decode cJ8_hugeLength_7cf53 49 = .ok (.iload_n 2, 1) := by decide +kernel
theorem dJ8_hugeLength_7cf53_50 : decode cJ8_hugeLength_7cf53 50 = .ok (.ldc 200, 2) := by decide +kernel
theorem dJ8_hugeLength_7cf53_52 : decode cJ8_hugeLength_7cf53 52 = .ok (.if_icmp .gt 6, 3) := by decide +kernel
theorem dJ8_hugeLength_7cf53_55 : decode cJ8_hugeLength_7cf53 55 = .ok (.ldc 200, 2) := by decide +kernel
theorem dJ8_hugeLength_7cf53_57 : decode cJ8_hugeLength_7cf53 57 = .ok (.ireturn, 1) := by decide +kernel
theorem dJ8_hugeLength_7cf53_58 : decode cJ8_hugeLength_7cf53 58 = .ok (.iload_n 2, 1) := by decide +kernel
theorem dJ8_hugeLength_7cf53_59 : decode cJ8_hugeLength_7cf53 59 = .ok (.ireturn, 1) := by decide +kernel
theorem dJ3_checkIndex_8e157_0 : decode cJ3_checkIndex_8e157 0 = .ok (.iload_n 0, 1) := by decide +kernel
theorem dJ3_checkIndex_8e157_1 : decode cJ3_checkIndex_8e157 1 = .ok (.ifCond .lt 8, 3) := by decide +kernel
theorem dJ3_checkIndex_8e157_4 : decode cJ3_checkIndex_8e157 4 = .ok (.iload_n 0, 1) := by decide +kernel
theorem dJ3_checkIndex_8e157_5 : decode cJ3_checkIndex_8e157 5 = .ok (.iload_n 1, 1) := by decide +kernel
theorem dJ3_checkIndex_8e157_6 : decode cJ3_checkIndex_8e157 6 = .ok (.if_icmp .lt 10, 3) := by decide +kernel
theorem dJ3_checkIndex_8e157_9 : decode cJ3_checkIndex_8e157 9 = .ok (.aload_n 2, 1) := by decide +kernel
theorem dJ3_checkIndex_8e157_10 : decode cJ3_checkIndex_8e157 10 = .ok (.iload_n 0, 1) := by decide +kernel
theorem dJ3_checkIndex_8e157_11 : decode cJ3_checkIndex_8e157 11 = .ok (.iload_n 1, 1) := by decide +kernel
theorem dJ3_checkIndex_8e157_12 : decode cJ3_checkIndex_8e157 12 = .ok (.invokestatic 95, 3) := by decide +kernel
theorem dJ3_checkIndex_8e157_15 : decode cJ3_checkIndex_8e157 15 = .ok (.athrow, 1) := by decide +kernel
theorem dJ3_checkIndex_8e157_16 : decode cJ3_checkIndex_8e157 16 = .ok (.iload_n 0, 1) := by decide +kernel
theorem dJ3_checkIndex_8e157_17 : decode cJ3_checkIndex_8e157 17 = .ok (.ireturn, 1) := by decide +kernel
end
section
theorem dX11_init_0 : decode cX11_init 0 = .ok (.aload_n 0, 1) := by decide +kernel
theorem dX11_init_1 : decode cX11_init 1 = .ok (.invokespecial 1, 3) := by decide +kernel
theorem dX11_init_4 : decode cX11_init 4 = .ok (.aload_n 0, 1) := by decide +kernel
theorem dX11_init_5 : decode cX11_init 5 = .ok (.bipush 17, 2) := by decide +kernel
theorem dX11_init_7 : decode cX11_init 7 = .ok (.newarray .int, 2) := by decide +kernel
theorem dX11_init_9 : decode cX11_init 9 = .ok (.putfield 7, 3) := by decide +kernel
theorem dX11_init_12 : decode cX11_init 12 = .ok (.aload_n 0, 1) := by decide +kernel
theorem dX11_init_13 : decode cX11_init 13 = .ok (.sipush 170, 3) := by decide +kernel
theorem dX11_init_16 : decode cX11_init 16 = .ok (.newarray .int, 2) := by decide +kernel
theorem dX11_init_18 : decode cX11_init 18 = .ok (.putfield 13, 3) := by decide +kernel
theorem dX11_init_21 : decode cX11_init 21 = .ok (.aload_n 0, 1) := by decide +kernel
theorem dX11_init_22 : decode cX11_init 22 = .ok (.bipush 17, 2) := by decide +kernel
theorem dX11_init_24 : decode cX11_init 24 = .ok (.newarray .boolean, 2) := by decide +kernel
theorem dX11_init_26 : decode cX11_init 26 = .ok (.putfield 16, 3) := by decide +kernel
theorem dX11_init_29 : decode cX11_init 29 = .ok (.aload_n 0, 1) := by decide +kernel
theorem dX11_init_30 : decode cX11_init 30 = .ok (.bipush 17, 2) := by decide +kernel
theorem dX11_init_32 : decode cX11_init 32 = .ok (.newarray .int, 2) := by decide +kernel
theorem dX11_init_34 : decode cX11_init 34 = .ok (.putfield 20, 3) := by decide +kernel
theorem dX11_init_37 : decode cX11_init 37 = .ok (.aload_n 0, 1) := by decide +kernel
theorem dX11_init_38 : decode cX11_init 38 = .ok (.bipush 17, 2) := by decide +kernel
theorem dX11_init_40 : decode cX11_init 40 = .ok (.newarray .int, 2) := by decide +kernel
theorem dX11_init_42 : decode cX11_init 42 = .ok (.putfield 23, 3) := by decide +kernel
theorem dX11_init_45 : decode cX11_init 45 = .ok (.aload_n 0, 1) := by decide +kernel
theorem dX11_init_46 : decode cX11_init 46 = .ok (.sipush 2040, 3) := by decide +kernel
theorem dX11_init_49 : decode cX11_init 49 = .ok (.newarray .int, 2) := by decide +kernel
theorem dX11_init_51 : decode cX11_init 51 = .ok (.putfield 26, 3) := by decide +kernel
theorem dX11_init_54 : decode cX11_init 54 = .ok (.aload_n 0, 1) := by decide +kernel
theorem dX11_init_55 : decode cX11_init 55 = .ok (.iconst 1, 1) := by decide +kernel
theorem dX11_init_56 : decode cX11_init 56 = .ok (.putfield 29, 3) := by decide +kernel
theorem dX11_init_59 : decode cX11_init 59 = .ok (.aload_n 0, 1) := by decide +kernel
theorem dX11_init_60 : decode cX11_init 60 = .ok (.sipush 160, 3) := by decide +kernel
theorem dX11_init_63 : decode cX11_init 63 = .ok (.newarray .int, 2) := by decide +kernel
theorem dX11_init_65 : decode cX11_init 65 = .ok (.putfield 33, 3) := by decide +kernel
theorem dX11_init_68 : decode cX11_init 68 = .ok (.aload_n 0, 1) := by decide +kernel
theorem dX11_init_69 : decode cX11_init 69 = .ok (.sipush 160, 3) := by decide +kernel
theorem dX11_init_72 : decode cX11_init 72 = .ok (.newarray .int, 2) := by decide +kernel
theorem dX11_init_74 : decode cX11_init 74 = .ok (.putfield 36, 3) := by decide +kernel
theorem dX11_init_77 : decode cX11_init 77 = .ok (.aload_n 0, 1) := by decide +kernel
theorem dX11_init_78 : decode cX11_init 78 = .ok (.bipush 18, 2) := by decide +kernel
theorem dX11_init_80 : decode cX11_init 80 = .ok (.newarray .int, 2) := by decide +kernel
theorem dX11_init_82 : decode cX11_init 82 = .ok (.putfield 39, 3) := by decide +kernel
theorem dX11_init_85 : decode cX11_init 85 = .ok (.aload_n 0, 1) := by decide +kernel
theorem dX11_init_86 : decode cX11_init 86 = .ok (.bipush 48, 2) := by decide +kernel
theorem dX11_init_88 : decode cX11_init 88 = .ok (.newarray .int, 2) := by decide +kernel
theorem dX11_init_90 : decode cX11_init 90 = .ok (.putfield 42, 3) := by decide +kernel
theorem dX11_init_93 : decode cX11_init 93 = .ok (.aload_n 0, 1) := by decide +kernel
theorem dX11_init_94 : decode cX11_init 94 = .ok (.bipush 64, 2) := by decide +kernel
theorem dX11_init_96 : decode cX11_init 96 = .ok (.newarray .int, 2) := by decide +kernel
theorem dX11_init_98 : decode cX11_init 98 = .ok (.putfield 45, 3) := by decide +kernel
theorem dX11_init_101 : decode cX11_init 101 = .ok (.aload_n 0, 1) := by decide +kernel
theorem dX11_init_102 : decode cX11_init 102 = .ok (.bipush 64, 2) := by decide +kernel
theorem dX11_init_104 : decode cX11_init 104 = .ok (.newarray .int, 2) := by decide +kernel
theorem dX11_init_106 : decode cX11_init 106 = .ok (.putfield 48, 3) := by decide +kernel
theorem dX11_init_109 : decode cX11_init 109 = .ok (.aload_n 0, 1) := by decide +kernel
theorem dX11_init_110 : decode cX11_init 110 = .ok (.bipush 64, 2) := by decide +kernel
theorem dX11_init_112 : decode cX11_init 112 = .ok (.newarray .int, 2) := by decide +kernel
theorem dX11_init_114 : decode cX11_init 114 = .ok (.putfield 51, 3) := by decide +kernel
theorem dX11_init_117 : decode cX11_init 117 = .ok (.aload_n 0, 1) := by decide +kernel
theorem dX11_init_118 : decode cX11_init 118 = .ok (.bipush 40, 2) := by decide +kernel
theorem dX11_init_120 : decode cX11_init 120 = .ok (.newarray .int, 2) := by decide +kernel
theorem dX11_init_122 : decode cX11_init 122 = .ok (.putfield 54, 3) := by decide +kernel
theorem dX11_init_125 : decode cX11_init 125 = .ok (.aload_n 0, 1) := by decide +kernel
theorem dX11_init_126 : decode cX11_init 126 = .ok (.sipush 400, 3) := by decide +kernel
theorem dX11_init_129 : decode cX11_init 129 = .ok (.newarray .int, 2) := by decide +kernel
theorem dX11_init_131 : decode cX11_init 131 = .ok (.putfield 57, 3) := by decide +kernel
theorem dX11_init_134 : decode cX11_init 134 = .ok (.aload_n 0, 1) := by decide +kernel
theorem dX11_init_135 : decode cX11_init 135 = .ok (.bipush 40, 2) := by decide +kernel
theorem dX11_init_137 : decode cX11_init 137 = .ok (.newarray .int, 2) := by decide +kernel
theorem dX11_init_139 : decode cX11_init 139 = .ok (.putfield 60, 3) := by decide +kernel
theorem dX11_init_142 : decode cX11_init 142 = .ok (.return_, 1) := by decide +kernel
theorem dX11_byteFrom_0 : decode cX11_byteFrom 0 = .ok (.iload 4, 2) := by decide +kernel
theorem dX11_byteFrom_2 : decode cX11_byteFrom 2 = .ok (.iconst 4, 1) := by decide +kernel
theorem dX11_byteFrom_3 : decode cX11_byteFrom 3 = .ok (.if_icmp .ge 7, 3) := by decide +kernel
theorem dX11_byteFrom_6 : decode cX11_byteFrom 6 = .ok (.iload_n 1, 1) := by decide +kernel
theorem dX11_byteFrom_7 : decode cX11_byteFrom 7 = .ok (.goto 15, 3) := by decide +kernel
theorem dX11_byteFrom_10 : decode cX11_byteFrom 10 = .ok (.iload 4, 2) := by decide +kernel
theorem dX11_byteFrom_12 : decode cX11_byteFrom 12 = .ok (.bipush 8, 2) := by decide +kernel
theorem dX11_byteFrom_14 : decode cX11_byteFrom 14 = .ok (.if_icmp .ge 7, 3) := by decide +kernel
theorem dX11_byteFrom_17 : decode cX11_byteFrom 17 = .ok (.iload_n 2, 1) := by decide +kernel
theorem dX11_byteFrom_18 : decode cX11_byteFrom 18 = .ok (.goto 4, 3) := by decide +kernel
theorem dX11_byteFrom_21 : decode cX11_byteFrom 21 = .ok (.iload_n 3, 1) := by decide +kernel
theorem dX11_byteFrom_22 : decode cX11_byteFrom 22 = .ok (.istore 5, 2) := by decide +kernel
theorem dX11_byteFrom_24 : decode cX11_byteFrom 24 = .ok (.iload 5, 2) := by decide +kernel
theorem dX11_byteFrom_26 : decode cX11_byteFrom 26 = .ok (.bipush 24, 2) := by decide +kernel
theorem dX11_byteFrom_28 : decode cX11_byteFrom 28 = .ok (.bipush 8, 2) := by decide +kernel
theorem dX11_byteFrom_30 : decode cX11_byteFrom 30 = .ok (.iload 4, 2) := by decide +kernel
theorem dX11_byteFrom_32 : decode cX11_byteFrom 32 = .ok (.iconst 4, 1) := by decide +kernel
theorem dX11_byteFrom_33 : decode cX11_byteFrom 33 = .ok (.irem, 1) := by decide +kernel
theorem dX11_byteFrom_34 : decode cX11_byteFrom 34 = .ok (.imul, 1) := by decide +kernel
theorem dX11_byteFrom_35 : decode cX11_byteFrom 35 = .ok (.isub, 1) := by decide +kernel
theorem dX11_byteFrom_36 : decode cX11_byteFrom 36 = .ok (.iushr, 1) := by decide +kernel
theorem dX11_byteFrom_37 : decode cX11_byteFrom 37 = .ok (.sipush 255, 3) := by decide +kernel
theorem dX11_byteFrom_40 : decode cX11_byteFrom 40 = .ok (.iand, 1) := by decide +kernel
theorem dX11_byteFrom_41 : decode cX11_byteFrom 41 = .ok (.ireturn, 1) := by decide +kernel
theorem dX11_show_0 : decode cX11_show 0 = .ok (.iload_n 3, 1) := by decide +kernel
theorem dX11_show_1 : decode cX11_show 1 = .ok (.iload 4, 2) := by decide +kernel
theorem dX11_show_3 : decode cX11_show 3 = .ok (.ixor, 1) := by decide +kernel
theorem dX11_show_4 : decode cX11_show 4 = .ok (.iload 5, 2) := by decide +kernel
theorem dX11_show_6 : decode cX11_show 6 = .ok (.ixor, 1) := by decide +kernel
theorem dX11_show_7 : decode cX11_show 7 = .ok (.iload 6, 2) := by decide +kernel
theorem dX11_show_9 : decode cX11_show 9 = .ok (.ixor, 1) := by decide +kernel
theorem dX11_show_10 : decode cX11_show 10 = .ok (.istore 7, 2) := by decide +kernel
theorem dX11_show_12 : decode cX11_show 12 = .ok (.iconst 0, 1) := by decide +kernel
theorem dX11_show_13 : decode cX11_show 13 = .ok (.istore 8, 2) := by decide +kernel
theorem dX11_show_15 : decode cX11_show 15 = .ok (.iload 8, 2) := by decide +kernel
theorem dX11_show_17 : decode cX11_show 17 = .ok (.bipush 40, 2) := by decide +kernel
theorem dX11_show_19 : decode cX11_show 19 = .ok (.if_icmp .ge 87, 3) := by decide +kernel
theorem dX11_show_22 : decode cX11_show 22 = .ok (.iload 8, 2) := by decide +kernel
theorem dX11_show_24 : decode cX11_show 24 = .ok (.bipush 8, 2) := by decide +kernel
theorem dX11_show_26 : decode cX11_show 26 = .ok (.if_icmp .ge 7, 3) := by decide +kernel
theorem dX11_show_29 : decode cX11_show 29 = .ok (.iload_n 3, 1) := by decide +kernel
theorem dX11_show_30 : decode cX11_show 30 = .ok (.goto 41, 3) := by decide +kernel
theorem dX11_show_33 : decode cX11_show 33 = .ok (.iload 8, 2) := by decide +kernel
theorem dX11_show_35 : decode cX11_show 35 = .ok (.bipush 16, 2) := by decide +kernel
theorem dX11_show_37 : decode cX11_show 37 = .ok (.if_icmp .ge 8, 3) := by decide +kernel
theorem dX11_show_40 : decode cX11_show 40 = .ok (.iload 4, 2) := by decide +kernel
theorem dX11_show_42 : decode cX11_show 42 = .ok (.goto 29, 3) := by decide +kernel
theorem dX11_show_45 : decode cX11_show 45 = .ok (.iload 8, 2) := by decide +kernel
theorem dX11_show_47 : decode cX11_show 47 = .ok (.bipush 24, 2) := by decide +kernel
theorem dX11_show_49 : decode cX11_show 49 = .ok (.if_icmp .ge 8, 3) := by decide +kernel
theorem dX11_show_52 : decode cX11_show 52 = .ok (.iload 5, 2) := by decide +kernel
theorem dX11_show_54 : decode cX11_show 54 = .ok (.goto 17, 3) := by decide +kernel
theorem dX11_show_57 : decode cX11_show 57 = .ok (.iload 8, 2) := by decide +kernel
theorem dX11_show_59 : decode cX11_show 59 = .ok (.bipush 32, 2) := by decide +kernel
theorem dX11_show_61 : decode cX11_show 61 = .ok (.if_icmp .ge 8, 3) := by decide +kernel
theorem dX11_show_64 : decode cX11_show 64 = .ok (.iload 6, 2) := by decide +kernel
theorem dX11_show_66 : decode cX11_show 66 = .ok (.goto 5, 3) := by decide +kernel
theorem dX11_show_69 : decode cX11_show 69 = .ok (.iload 7, 2) := by decide +kernel
theorem dX11_show_71 : decode cX11_show 71 = .ok (.istore 9, 2) := by decide +kernel
theorem dX11_show_73 : decode cX11_show 73 = .ok (.aload_n 0, 1) := by decide +kernel
theorem dX11_show_74 : decode cX11_show 74 = .ok (.getfield 26, 3) := by decide +kernel
theorem dX11_show_77 : decode cX11_show 77 = .ok (.bipush 120, 2) := by decide +kernel
theorem dX11_show_79 : decode cX11_show 79 = .ok (.iload_n 1, 1) := by decide +kernel
theorem dX11_show_80 : decode cX11_show 80 = .ok (.imul, 1) := by decide +kernel
theorem dX11_show_81 : decode cX11_show 81 = .ok (.bipush 40, 2) := by decide +kernel
theorem dX11_show_83 : decode cX11_show 83 = .ok (.iload_n 2, 1) := by decide +kernel
theorem dX11_show_84 : decode cX11_show 84 = .ok (.imul, 1) := by decide +kernel
theorem dX11_show_85 : decode cX11_show 85 = .ok (.iadd, 1) := by decide +kernel
theorem dX11_show_86 : decode cX11_show 86 = .ok (.iload 8, 2) := by decide +kernel
theorem dX11_show_88 : decode cX11_show 88 = .ok (.iadd, 1) := by decide +kernel
theorem dX11_show_89 : decode cX11_show 89 = .ok (.iload 9, 2) := by decide +kernel
theorem dX11_show_91 : decode cX11_show 91 = .ok (.iload 8, 2) := by decide +kernel
theorem dX11_show_93 : decode cX11_show 93 = .ok (.bipush 8, 2) := by decide +kernel
theorem dX11_show_95 : decode cX11_show 95 = .ok (.irem, 1) := by decide +kernel
theorem dX11_show_96 : decode cX11_show 96 = .ok (.ishr, 1) := by decide +kernel
theorem dX11_show_97 : decode cX11_show 97 = .ok (.iconst 1, 1) := by decide +kernel
theorem dX11_show_98 : decode cX11_show 98 = .ok (.iand, 1) := by decide +kernel
theorem dX11_show_99 : decode cX11_show 99 = .ok (.iastore, 1) := by decide +kernel
theorem dX11_show_100 : decode cX11_show 100 = .ok (.iinc 8 1, 3) := by decide +kernel
theorem dX11_show_103 : decode cX11_show 103 = .ok (.goto (-88), 3) := by decide +kernel
theorem dX11_show_106 : decode cX11_show 106 = .ok (.return_, 1) := by decide +kernel
theorem dX11_tag_0 : decode cX11_tag 0 = .ok (.iload_n 1, 1) := by decide +kernel
theorem dX11_tag_1 : decode cX11_tag 1 = .ok (.iconst 4, 1) := by decide +kernel
theorem dX11_tag_2 : decode cX11_tag 2 = .ok (.if_icmp .eq 18, 3) := by decide +kernel
theorem dX11_tag_5 : decode cX11_tag 5 = .ok (.iload_n 1, 1) := by decide +kernel
theorem dX11_tag_6 : decode cX11_tag 6 = .ok (.bipush 7, 2) := by decide +kernel
theorem dX11_tag_8 : decode cX11_tag 8 = .ok (.if_icmp .eq 12, 3) := by decide +kernel
theorem dX11_tag_11 : decode cX11_tag 11 = .ok (.iload_n 1, 1) := by decide +kernel
theorem dX11_tag_12 : decode cX11_tag 12 = .ok (.bipush 10, 2) := by decide +kernel
theorem dX11_tag_14 : decode cX11_tag 14 = .ok (.if_icmp .eq 6, 3) := by decide +kernel
theorem dX11_tag_17 : decode cX11_tag 17 = .ok (.bipush (-12), 2) := by decide +kernel
theorem dX11_tag_19 : decode cX11_tag 19 = .ok (.ireturn, 1) := by decide +kernel
theorem dX11_tag_20 : decode cX11_tag 20 = .ok (.aload_n 0, 1) := by decide +kernel
theorem dX11_tag_21 : decode cX11_tag 21 = .ok (.iload_n 2, 1) := by decide +kernel
theorem dX11_tag_22 : decode cX11_tag 22 = .ok (.iload_n 3, 1) := by decide +kernel
theorem dX11_tag_23 : decode cX11_tag 23 = .ok (.iload 4, 2) := by decide +kernel
theorem dX11_tag_25 : decode cX11_tag 25 = .ok (.iload_n 1, 1) := by decide +kernel
theorem dX11_tag_26 : decode cX11_tag 26 = .ok (.iconst 4, 1) := by decide +kernel
theorem dX11_tag_27 : decode cX11_tag 27 = .ok (.isub, 1) := by decide +kernel
theorem dX11_tag_28 : decode cX11_tag 28 = .ok (.invokevirtual 63, 3) := by decide +kernel
theorem dX11_tag_31 : decode cX11_tag 31 = .ok (.sipush 136, 3) := by decide +kernel
theorem dX11_tag_34 : decode cX11_tag 34 = .ok (.if_icmp .ne 6, 3) := by decide +kernel
theorem dX11_tag_37 : decode cX11_tag 37 = .ok (.bipush (-13), 2) := by decide +kernel
theorem dX11_tag_39 : decode cX11_tag 39 = .ok (.ireturn, 1) := by decide +kernel
theorem dX11_tag_40 : decode cX11_tag 40 = .ok (.iconst 1, 1) := by decide +kernel
theorem dX11_tag_41 : decode cX11_tag 41 = .ok (.istore 5, 2) := by decide +kernel
theorem dX11_tag_43 : decode cX11_tag 43 = .ok (.iload 5, 2) := by decide +kernel
theorem dX11_tag_45 : decode cX11_tag 45 = .ok (.aload_n 0, 1) := by decide +kernel
theorem dX11_tag_46 : decode cX11_tag 46 = .ok (.getfield 67, 3) := by decide +kernel
theorem dX11_tag_49 : decode cX11_tag 49 = .ok (.if_icmp .gt 88, 3) := by decide +kernel
theorem dX11_tag_52 : decode cX11_tag 52 = .ok (.aload_n 0, 1) := by decide +kernel
theorem dX11_tag_53 : decode cX11_tag 53 = .ok (.getfield 7, 3) := by decide +kernel
theorem dX11_tag_56 : decode cX11_tag 56 = .ok (.iload 5, 2) := by decide +kernel
theorem dX11_tag_58 : decode cX11_tag 58 = .ok (.iaload, 1) := by decide +kernel
theorem dX11_tag_59 : decode cX11_tag 59 = .ok (.iload_n 1, 1) := by decide +kernel
theorem dX11_tag_60 : decode cX11_tag 60 = .ok (.if_icmp .ne 7, 3) := by decide +kernel
theorem dX11_tag_63 : decode cX11_tag 63 = .ok (.iconst 1, 1) := by decide +kernel
theorem dX11_tag_64 : decode cX11_tag 64 = .ok (.goto 4, 3) := by decide +kernel
theorem dX11_tag_67 : decode cX11_tag 67 = .ok (.iconst 0, 1) := by decide +kernel
theorem dX11_tag_68 : decode cX11_tag 68 = .ok (.istore 6, 2) := by decide +kernel
theorem dX11_tag_70 : decode cX11_tag 70 = .ok (.iconst 0, 1) := by decide +kernel
theorem dX11_tag_71 : decode cX11_tag 71 = .ok (.istore 7, 2) := by decide +kernel
theorem dX11_tag_73 : decode cX11_tag 73 = .ok (.iload 7, 2) := by decide +kernel
theorem dX11_tag_75 : decode cX11_tag 75 = .ok (.iload_n 1, 1) := by decide +kernel
theorem dX11_tag_76 : decode cX11_tag 76 = .ok (.if_icmp .ge 47, 3) := by decide +kernel
theorem dX11_tag_79 : decode cX11_tag 79 = .ok (.iload 6, 2) := by decide +kernel
theorem dX11_tag_81 : decode cX11_tag 81 = .ok (.ifCond .eq 33, 3) := by decide +kernel
theorem dX11_tag_84 : decode cX11_tag 84 = .ok (.aload_n 0, 1) := by decide +kernel
theorem dX11_tag_85 : decode cX11_tag 85 = .ok (.getfield 13, 3) := by decide +kernel
theorem dX11_tag_88 : decode cX11_tag 88 = .ok (.bipush 10, 2) := by decide +kernel
theorem dX11_tag_90 : decode cX11_tag 90 = .ok (.iload 5, 2) := by decide +kernel
theorem dX11_tag_92 : decode cX11_tag 92 = .ok (.imul, 1) := by decide +kernel
theorem dX11_tag_93 : decode cX11_tag 93 = .ok (.iload 7, 2) := by decide +kernel
theorem dX11_tag_95 : decode cX11_tag 95 = .ok (.iadd, 1) := by decide +kernel
theorem dX11_tag_96 : decode cX11_tag 96 = .ok (.iaload, 1) := by decide +kernel
theorem dX11_tag_97 : decode cX11_tag 97 = .ok (.aload_n 0, 1) := by decide +kernel
theorem dX11_tag_98 : decode cX11_tag 98 = .ok (.iload_n 2, 1) := by decide +kernel
theorem dX11_tag_99 : decode cX11_tag 99 = .ok (.iload_n 3, 1) := by decide +kernel
theorem dX11_tag_100 : decode cX11_tag 100 = .ok (.iload 4, 2) := by decide +kernel
theorem dX11_tag_102 : decode cX11_tag 102 = .ok (.iload 7, 2) := by decide +kernel
theorem dX11_tag_104 : decode cX11_tag 104 = .ok (.invokevirtual 63, 3) := by decide +kernel
theorem dX11_tag_107 : decode cX11_tag 107 = .ok (.if_icmp .ne 7, 3) := by decide +kernel
theorem dX11_tag_110 : decode cX11_tag 110 = .ok (.iconst 1, 1) := by decide +kernel
theorem dX11_tag_111 : decode cX11_tag 111 = .ok (.goto 4, 3) := by decide +kernel
theorem dX11_tag_114 : decode cX11_tag 114 = .ok (.iconst 0, 1) := by decide +kernel
theorem dX11_tag_115 : decode cX11_tag 115 = .ok (.istore 6, 2) := by decide +kernel
theorem dX11_tag_117 : decode cX11_tag 117 = .ok (.iinc 7 1, 3) := by decide +kernel
theorem dX11_tag_120 : decode cX11_tag 120 = .ok (.goto (-47), 3) := by decide +kernel
theorem dX11_tag_123 : decode cX11_tag 123 = .ok (.iload 6, 2) := by decide +kernel
theorem dX11_tag_125 : decode cX11_tag 125 = .ok (.ifCond .eq 6, 3) := by decide +kernel
theorem dX11_tag_128 : decode cX11_tag 128 = .ok (.bipush (-13), 2) := by decide +kernel
theorem dX11_tag_130 : decode cX11_tag 130 = .ok (.ireturn, 1) := by decide +kernel
theorem dX11_tag_131 : decode cX11_tag 131 = .ok (.iinc 5 1, 3) := by decide +kernel
theorem dX11_tag_134 : decode cX11_tag 134 = .ok (.goto (-91), 3) := by decide +kernel
theorem dX11_tag_137 : decode cX11_tag 137 = .ok (.aload_n 0, 1) := by decide +kernel
theorem dX11_tag_138 : decode cX11_tag 138 = .ok (.getfield 67, 3) := by decide +kernel
theorem dX11_tag_141 : decode cX11_tag 141 = .ok (.bipush 16, 2) := by decide +kernel
theorem dX11_tag_143 : decode cX11_tag 143 = .ok (.if_icmp .ne 6, 3) := by decide +kernel
theorem dX11_tag_146 : decode cX11_tag 146 = .ok (.bipush (-14), 2) := by decide +kernel
theorem dX11_tag_148 : decode cX11_tag 148 = .ok (.ireturn, 1) := by decide +kernel
theorem dX11_tag_149 : decode cX11_tag 149 = .ok (.aload_n 0, 1) := by decide +kernel
theorem dX11_tag_150 : decode cX11_tag 150 = .ok (.dup, 1) := by decide +kernel
theorem dX11_tag_151 : decode cX11_tag 151 = .ok (.getfield 67, 3) := by decide +kernel
theorem dX11_tag_154 : decode cX11_tag 154 = .ok (.iconst 1, 1) := by decide +kernel
theorem dX11_tag_155 : decode cX11_tag 155 = .ok (.iadd, 1) := by decide +kernel
theorem dX11_tag_156 : decode cX11_tag 156 = .ok (.putfield 67, 3) := by decide +kernel
theorem dX11_tag_159 : decode cX11_tag 159 = .ok (.aload_n 0, 1) := by decide +kernel
theorem dX11_tag_160 : decode cX11_tag 160 = .ok (.getfield 67, 3) := by decide +kernel
theorem dX11_tag_163 : decode cX11_tag 163 = .ok (.istore 5, 2) := by decide +kernel
theorem dX11_tag_165 : decode cX11_tag 165 = .ok (.aload_n 0, 1) := by decide +kernel
theorem dX11_tag_166 : decode cX11_tag 166 = .ok (.getfield 7, 3) := by decide +kernel
theorem dX11_tag_169 : decode cX11_tag 169 = .ok (.iload 5, 2) := by decide +kernel
theorem dX11_tag_171 : decode cX11_tag 171 = .ok (.iload_n 1, 1) := by decide +kernel
theorem dX11_tag_172 : decode cX11_tag 172 = .ok (.iastore, 1) := by decide +kernel
theorem dX11_tag_173 : decode cX11_tag 173 = .ok (.iconst 0, 1) := by decide +kernel
theorem dX11_tag_174 : decode cX11_tag 174 = .ok (.istore 6, 2) := by decide +kernel
theorem dX11_tag_176 : decode cX11_tag 176 = .ok (.iload 6, 2) := by decide +kernel
theorem dX11_tag_178 : decode cX11_tag 178 = .ok (.iload_n 1, 1) := by decide +kernel
theorem dX11_tag_179 : decode cX11_tag 179 = .ok (.if_icmp .ge 32, 3) := by decide +kernel
theorem dX11_tag_182 : decode cX11_tag 182 = .ok (.aload_n 0, 1) := by decide +kernel
theorem dX11_tag_183 : decode cX11_tag 183 = .ok (.getfield 13, 3) := by decide +kernel
theorem dX11_tag_186 : decode cX11_tag 186 = .ok (.bipush 10, 2) := by decide +kernel
theorem dX11_tag_188 : decode cX11_tag 188 = .ok (.iload 5, 2) := by decide +kernel
theorem dX11_tag_190 : decode cX11_tag 190 = .ok (.imul, 1) := by decide +kernel
theorem dX11_tag_191 : decode cX11_tag 191 = .ok (.iload 6, 2) := by decide +kernel
theorem dX11_tag_193 : decode cX11_tag 193 = .ok (.iadd, 1) := by decide +kernel
theorem dX11_tag_194 : decode cX11_tag 194 = .ok (.aload_n 0, 1) := by decide +kernel
theorem dX11_tag_195 : decode cX11_tag 195 = .ok (.iload_n 2, 1) := by decide +kernel
theorem dX11_tag_196 : decode cX11_tag 196 = .ok (.iload_n 3, 1) := by decide +kernel
theorem dX11_tag_197 : decode cX11_tag 197 = .ok (.iload 4, 2) := by decide +kernel
theorem dX11_tag_199 : decode cX11_tag 199 = .ok (.iload 6, 2) := by decide +kernel
theorem dX11_tag_201 : decode cX11_tag 201 = .ok (.invokevirtual 63, 3) := by decide +kernel
theorem dX11_tag_204 : decode cX11_tag 204 = .ok (.iastore, 1) := by decide +kernel
theorem dX11_tag_205 : decode cX11_tag 205 = .ok (.iinc 6 1, 3) := by decide +kernel
theorem dX11_tag_208 : decode cX11_tag 208 = .ok (.goto (-32), 3) := by decide +kernel
theorem dX11_tag_211 : decode cX11_tag 211 = .ok (.bipush 10, 2) := by decide +kernel
theorem dX11_tag_213 : decode cX11_tag 213 = .ok (.iload 5, 2) := by decide +kernel
theorem dX11_tag_215 : decode cX11_tag 215 = .ok (.imul, 1) := by decide +kernel
theorem dX11_tag_216 : decode cX11_tag 216 = .ok (.istore 6, 2) := by decide +kernel
theorem dX11_tag_218 : decode cX11_tag 218 = .ok (.iload_n 1, 1) := by decide +kernel
theorem dX11_tag_219 : decode cX11_tag 219 = .ok (.iconst 3, 1) := by decide +kernel
theorem dX11_tag_220 : decode cX11_tag 220 = .ok (.idiv, 1) := by decide +kernel
theorem dX11_tag_221 : decode cX11_tag 221 = .ok (.istore 7, 2) := by decide +kernel
theorem dX11_tag_223 : decode cX11_tag 223 = .ok (.iconst 0, 1) := by decide +kernel
theorem dX11_tag_224 : decode cX11_tag 224 = .ok (.istore 8, 2) := by decide +kernel
theorem dX11_tag_226 : decode cX11_tag 226 = .ok (.iload 8, 2) := by decide +kernel
theorem dX11_tag_228 : decode cX11_tag 228 = .ok (.iload 7, 2) := by decide +kernel
theorem dX11_tag_230 : decode cX11_tag 230 = .ok (.if_icmp .ge 108, 3) := by decide +kernel
theorem dX11_tag_233 : decode cX11_tag 233 = .ok (.iload 6, 2) := by decide +kernel
theorem dX11_tag_235 : decode cX11_tag 235 = .ok (.iconst 3, 1) := by decide +kernel
theorem dX11_tag_236 : decode cX11_tag 236 = .ok (.iload 8, 2) := by decide +kernel
theorem dX11_tag_238 : decode cX11_tag 238 = .ok (.imul, 1) := by decide +kernel
theorem dX11_tag_239 : decode cX11_tag 239 = .ok (.iadd, 1) := by decide +kernel
theorem dX11_tag_240 : decode cX11_tag 240 = .ok (.istore 9, 2) := by decide +kernel
theorem dX11_tag_242 : decode cX11_tag 242 = .ok (.iload 8, 2) := by decide +kernel
theorem dX11_tag_244 : decode cX11_tag 244 = .ok (.iconst 1, 1) := by decide +kernel
theorem dX11_tag_245 : decode cX11_tag 245 = .ok (.iadd, 1) := by decide +kernel
theorem dX11_tag_246 : decode cX11_tag 246 = .ok (.iload 7, 2) := by decide +kernel
theorem dX11_tag_248 : decode cX11_tag 248 = .ok (.if_icmp .ge 42, 3) := by decide +kernel
theorem dX11_tag_251 : decode cX11_tag 251 = .ok (.aload_n 0, 1) := by decide +kernel
theorem dX11_tag_252 : decode cX11_tag 252 = .ok (.iload 5, 2) := by decide +kernel
theorem dX11_tag_254 : decode cX11_tag 254 = .ok (.iload 8, 2) := by decide +kernel
theorem dX11_tag_256 : decode cX11_tag 256 = .ok (.sipush 136, 3) := by decide +kernel
theorem dX11_tag_259 : decode cX11_tag 259 = .ok (.aload_n 0, 1) := by decide +kernel
theorem dX11_tag_260 : decode cX11_tag 260 = .ok (.getfield 13, 3) := by decide +kernel
theorem dX11_tag_263 : decode cX11_tag 263 = .ok (.iload 9, 2) := by decide +kernel
theorem dX11_tag_265 : decode cX11_tag 265 = .ok (.iaload, 1) := by decide +kernel
theorem dX11_tag_266 : decode cX11_tag 266 = .ok (.aload_n 0, 1) := by decide +kernel
theorem dX11_tag_267 : decode cX11_tag 267 = .ok (.getfield 13, 3) := by decide +kernel
theorem dX11_tag_270 : decode cX11_tag 270 = .ok (.iload 9, 2) := by decide +kernel
theorem dX11_tag_272 : decode cX11_tag 272 = .ok (.iconst 1, 1) := by decide +kernel
theorem dX11_tag_273 : decode cX11_tag 273 = .ok (.iadd, 1) := by decide +kernel
theorem dX11_tag_274 : decode cX11_tag 274 = .ok (.iaload, 1) := by decide +kernel
theorem dX11_tag_275 : decode cX11_tag 275 = .ok (.aload_n 0, 1) := by decide +kernel
theorem dX11_tag_276 : decode cX11_tag 276 = .ok (.getfield 13, 3) := by decide +kernel
theorem dX11_tag_279 : decode cX11_tag 279 = .ok (.iload 9, 2) := by decide +kernel
theorem dX11_tag_281 : decode cX11_tag 281 = .ok (.iconst 2, 1) := by decide +kernel
theorem dX11_tag_282 : decode cX11_tag 282 = .ok (.iadd, 1) := by decide +kernel
theorem dX11_tag_283 : decode cX11_tag 283 = .ok (.iaload, 1) := by decide +kernel
theorem dX11_tag_284 : decode cX11_tag 284 = .ok (.invokevirtual 71, 3) := by decide +kernel
theorem dX11_tag_287 : decode cX11_tag 287 = .ok (.goto 45, 3) := by decide +kernel
theorem dX11_tag_290 : decode cX11_tag 290 = .ok (.aload_n 0, 1) := by decide +kernel
theorem dX11_tag_291 : decode cX11_tag 291 = .ok (.iload 5, 2) := by decide +kernel
theorem dX11_tag_293 : decode cX11_tag 293 = .ok (.iload 8, 2) := by decide +kernel
theorem dX11_tag_295 : decode cX11_tag 295 = .ok (.aload_n 0, 1) := by decide +kernel
theorem dX11_tag_296 : decode cX11_tag 296 = .ok (.getfield 13, 3) := by decide +kernel
theorem dX11_tag_299 : decode cX11_tag 299 = .ok (.iload 9, 2) := by decide +kernel
theorem dX11_tag_301 : decode cX11_tag 301 = .ok (.iaload, 1) := by decide +kernel
theorem dX11_tag_302 : decode cX11_tag 302 = .ok (.aload_n 0, 1) := by decide +kernel
theorem dX11_tag_303 : decode cX11_tag 303 = .ok (.getfield 13, 3) := by decide +kernel
theorem dX11_tag_306 : decode cX11_tag 306 = .ok (.iload 9, 2) := by decide +kernel
theorem dX11_tag_308 : decode cX11_tag 308 = .ok (.iconst 1, 1) := by decide +kernel
theorem dX11_tag_309 : decode cX11_tag 309 = .ok (.iadd, 1) := by decide +kernel
theorem dX11_tag_310 : decode cX11_tag 310 = .ok (.iaload, 1) := by decide +kernel
theorem dX11_tag_311 : decode cX11_tag 311 = .ok (.aload_n 0, 1) := by decide +kernel
theorem dX11_tag_312 : decode cX11_tag 312 = .ok (.getfield 13, 3) := by decide +kernel
theorem dX11_tag_315 : decode cX11_tag 315 = .ok (.iload 9, 2) := by decide +kernel
theorem dX11_tag_317 : decode cX11_tag 317 = .ok (.iconst 2, 1) := by decide +kernel
theorem dX11_tag_318 : decode cX11_tag 318 = .ok (.iadd, 1) := by decide +kernel
theorem dX11_tag_319 : decode cX11_tag 319 = .ok (.iaload, 1) := by decide +kernel
theorem dX11_tag_320 : decode cX11_tag 320 = .ok (.aload_n 0, 1) := by decide +kernel
theorem dX11_tag_321 : decode cX11_tag 321 = .ok (.getfield 13, 3) := by decide +kernel
theorem dX11_tag_324 : decode cX11_tag 324 = .ok (.iload 9, 2) := by decide +kernel
theorem dX11_tag_326 : decode cX11_tag 326 = .ok (.iconst 3, 1) := by decide +kernel
theorem dX11_tag_327 : decode cX11_tag 327 = .ok (.iadd, 1) := by decide +kernel
theorem dX11_tag_328 : decode cX11_tag 328 = .ok (.iaload, 1) := by decide +kernel
theorem dX11_tag_329 : decode cX11_tag 329 = .ok (.invokevirtual 71, 3) := by decide +kernel
theorem dX11_tag_332 : decode cX11_tag 332 = .ok (.iinc 8 1, 3) := by decide +kernel
theorem dX11_tag_335 : decode cX11_tag 335 = .ok (.goto (-109), 3) := by decide +kernel
theorem dX11_tag_338 : decode cX11_tag 338 = .ok (.aload_n 0, 1) := by decide +kernel
theorem dX11_tag_339 : decode cX11_tag 339 = .ok (.getfield 16, 3) := by decide +kernel
theorem dX11_tag_342 : decode cX11_tag 342 = .ok (.iload 5, 2) := by decide +kernel
theorem dX11_tag_344 : decode cX11_tag 344 = .ok (.iconst 0, 1) := by decide +kernel
theorem dX11_tag_345 : decode cX11_tag 345 = .ok (.bastore, 1) := by decide +kernel
theorem dX11_tag_346 : decode cX11_tag 346 = .ok (.aload_n 0, 1) := by decide +kernel
theorem dX11_tag_347 : decode cX11_tag 347 = .ok (.getfield 20, 3) := by decide +kernel
theorem dX11_tag_350 : decode cX11_tag 350 = .ok (.iload 5, 2) := by decide +kernel
theorem dX11_tag_352 : decode cX11_tag 352 = .ok (.aload_n 0, 1) := by decide +kernel
theorem dX11_tag_353 : decode cX11_tag 353 = .ok (.getfield 29, 3) := by decide +kernel
theorem dX11_tag_356 : decode cX11_tag 356 = .ok (.ifCond .eq 7, 3) := by decide +kernel
theorem dX11_tag_359 : decode cX11_tag 359 = .ok (.iconst 1, 1) := by decide +kernel
theorem dX11_tag_360 : decode cX11_tag 360 = .ok (.goto 4, 3) := by decide +kernel
theorem dX11_tag_363 : decode cX11_tag 363 = .ok (.iconst 0, 1) := by decide +kernel
theorem dX11_tag_364 : decode cX11_tag 364 = .ok (.iastore, 1) := by decide +kernel
theorem dX11_tag_365 : decode cX11_tag 365 = .ok (.aload_n 0, 1) := by decide +kernel
theorem dX11_tag_366 : decode cX11_tag 366 = .ok (.getfield 23, 3) := by decide +kernel
theorem dX11_tag_369 : decode cX11_tag 369 = .ok (.iload 5, 2) := by decide +kernel
theorem dX11_tag_371 : decode cX11_tag 371 = .ok (.iconst 1, 1) := by decide +kernel
theorem dX11_tag_372 : decode cX11_tag 372 = .ok (.iastore, 1) := by decide +kernel
theorem dX11_tag_373 : decode cX11_tag 373 = .ok (.iload 5, 2) := by decide +kernel
theorem dX11_tag_375 : decode cX11_tag 375 = .ok (.ireturn, 1) := by decide +kernel
theorem dX11_levels_0 : decode cX11_levels 0 = .ok (.aload_n 0, 1) := by decide +kernel
theorem dX11_levels_1 : decode cX11_levels 1 = .ok (.getfield 7, 3) := by decide +kernel
theorem dX11_levels_4 : decode cX11_levels 4 = .ok (.iload_n 1, 1) := by decide +kernel
theorem dX11_levels_5 : decode cX11_levels 5 = .ok (.iaload, 1) := by decide +kernel
theorem dX11_levels_6 : decode cX11_levels 6 = .ok (.iconst 3, 1) := by decide +kernel
theorem dX11_levels_7 : decode cX11_levels 7 = .ok (.idiv, 1) := by decide +kernel
theorem dX11_levels_8 : decode cX11_levels 8 = .ok (.ireturn, 1) := by decide +kernel
theorem dX11_isTag_0 : decode cX11_isTag 0 = .ok (.iload_n 1, 1) := by decide +kernel
theorem dX11_isTag_1 : decode cX11_isTag 1 = .ok (.iconst 1, 1) := by decide +kernel
theorem dX11_isTag_2 : decode cX11_isTag 2 = .ok (.if_icmp .lt 15, 3) := by decide +kernel
theorem dX11_isTag_5 : decode cX11_isTag 5 = .ok (.iload_n 1, 1) := by decide +kernel
theorem dX11_isTag_6 : decode cX11_isTag 6 = .ok (.aload_n 0, 1) := by decide +kernel
theorem dX11_isTag_7 : decode cX11_isTag 7 = .ok (.getfield 67, 3) := by decide +kernel
theorem dX11_isTag_10 : decode cX11_isTag 10 = .ok (.if_icmp .gt 7, 3) := by decide +kernel
theorem dX11_isTag_13 : decode cX11_isTag 13 = .ok (.iconst 1, 1) := by decide +kernel
theorem dX11_isTag_14 : decode cX11_isTag 14 = .ok (.goto 4, 3) := by decide +kernel
theorem dX11_isTag_17 : decode cX11_isTag 17 = .ok (.iconst 0, 1) := by decide +kernel
theorem dX11_isTag_18 : decode cX11_isTag 18 = .ok (.ireturn, 1) := by decide +kernel
theorem dX11_out_0 : decode cX11_out 0 = .ok (.aload_n 0, 1) := by decide +kernel
theorem dX11_out_1 : decode cX11_out 1 = .ok (.iload_n 1, 1) := by decide +kernel
theorem dX11_out_2 : decode cX11_out 2 = .ok (.invokevirtual 75, 3) := by decide +kernel
theorem dX11_out_5 : decode cX11_out 5 = .ok (.ifCond .ne 6, 3) := by decide +kernel
theorem dX11_out_8 : decode cX11_out 8 = .ok (.bipush (-11), 2) := by decide +kernel
theorem dX11_out_10 : decode cX11_out 10 = .ok (.ireturn, 1) := by decide +kernel
theorem dX11_out_11 : decode cX11_out 11 = .ok (.aload_n 0, 1) := by decide +kernel
theorem dX11_out_12 : decode cX11_out 12 = .ok (.getfield 16, 3) := by decide +kernel
theorem dX11_out_15 : decode cX11_out 15 = .ok (.iload_n 1, 1) := by decide +kernel
theorem dX11_out_16 : decode cX11_out 16 = .ok (.baload, 1) := by decide +kernel
theorem dX11_out_17 : decode cX11_out 17 = .ok (.iload_n 2, 1) := by decide +kernel
theorem dX11_out_18 : decode cX11_out 18 = .ok (.if_icmp .ne 5, 3) := by decide +kernel
theorem dX11_out_21 : decode cX11_out 21 = .ok (.iconst 0, 1) := by decide +kernel
theorem dX11_out_22 : decode cX11_out 22 = .ok (.ireturn, 1) := by decide +kernel
theorem dX11_out_23 : decode cX11_out 23 = .ok (.aload_n 0, 1) := by decide +kernel
theorem dX11_out_24 : decode cX11_out 24 = .ok (.getfield 16, 3) := by decide +kernel
theorem dX11_out_27 : decode cX11_out 27 = .ok (.iload_n 1, 1) := by decide +kernel
theorem dX11_out_28 : decode cX11_out 28 = .ok (.iload_n 2, 1) := by decide +kernel
theorem dX11_out_29 : decode cX11_out 29 = .ok (.bastore, 1) := by decide +kernel
theorem dX11_out_30 : decode cX11_out 30 = .ok (.aload_n 0, 1) := by decide +kernel
theorem dX11_out_31 : decode cX11_out 31 = .ok (.getfield 20, 3) := by decide +kernel
theorem dX11_out_34 : decode cX11_out 34 = .ok (.iload_n 1, 1) := by decide +kernel
theorem dX11_out_35 : decode cX11_out 35 = .ok (.iload_n 2, 1) := by decide +kernel
theorem dX11_out_36 : decode cX11_out 36 = .ok (.ifCond .ne 10, 3) := by decide +kernel
theorem dX11_out_39 : decode cX11_out 39 = .ok (.aload_n 0, 1) := by decide +kernel
theorem dX11_out_40 : decode cX11_out 40 = .ok (.getfield 29, 3) := by decide +kernel
theorem dX11_out_43 : decode cX11_out 43 = .ok (.ifCond .ne 7, 3) := by decide +kernel
theorem dX11_out_46 : decode cX11_out 46 = .ok (.iconst 0, 1) := by decide +kernel
theorem dX11_out_47 : decode cX11_out 47 = .ok (.goto 4, 3) := by decide +kernel
theorem dX11_out_50 : decode cX11_out 50 = .ok (.iconst 1, 1) := by decide +kernel
theorem dX11_out_51 : decode cX11_out 51 = .ok (.iastore, 1) := by decide +kernel
theorem dX11_out_52 : decode cX11_out 52 = .ok (.iconst 1, 1) := by decide +kernel
theorem dX11_out_53 : decode cX11_out 53 = .ok (.ireturn, 1) := by decide +kernel
theorem dX11_field_0 : decode cX11_field 0 = .ok (.aload_n 0, 1) := by decide +kernel
theorem dX11_field_1 : decode cX11_field 1 = .ok (.getfield 29, 3) := by decide +kernel
theorem dX11_field_4 : decode cX11_field 4 = .ok (.iload_n 1, 1) := by decide +kernel
theorem dX11_field_5 : decode cX11_field 5 = .ok (.if_icmp .ne 5, 3) := by decide +kernel
theorem dX11_field_8 : decode cX11_field 8 = .ok (.iconst 0, 1) := by decide +kernel
theorem dX11_field_9 : decode cX11_field 9 = .ok (.ireturn, 1) := by decide +kernel
theorem dX11_field_10 : decode cX11_field 10 = .ok (.aload_n 0, 1) := by decide +kernel
theorem dX11_field_11 : decode cX11_field 11 = .ok (.iload_n 1, 1) := by decide +kernel
theorem dX11_field_12 : decode cX11_field 12 = .ok (.putfield 29, 3) := by decide +kernel
theorem dX11_field_15 : decode cX11_field 15 = .ok (.iconst 1, 1) := by decide +kernel
theorem dX11_field_16 : decode cX11_field 16 = .ok (.istore_n 2, 1) := by decide +kernel
theorem dX11_field_17 : decode cX11_field 17 = .ok (.iload_n 2, 1) := by decide +kernel
theorem dX11_field_18 : decode cX11_field 18 = .ok (.aload_n 0, 1) := by decide +kernel
theorem dX11_field_19 : decode cX11_field 19 = .ok (.getfield 67, 3) := by decide +kernel
theorem dX11_field_22 : decode cX11_field 22 = .ok (.if_icmp .gt 33, 3) := by decide +kernel
theorem dX11_field_25 : decode cX11_field 25 = .ok (.aload_n 0, 1) := by decide +kernel
theorem dX11_field_26 : decode cX11_field 26 = .ok (.getfield 20, 3) := by decide +kernel
theorem dX11_field_29 : decode cX11_field 29 = .ok (.iload_n 2, 1) := by decide +kernel
theorem dX11_field_30 : decode cX11_field 30 = .ok (.iload_n 1, 1) := by decide +kernel
theorem dX11_field_31 : decode cX11_field 31 = .ok (.ifCond .eq 16, 3) := by decide +kernel
theorem dX11_field_34 : decode cX11_field 34 = .ok (.aload_n 0, 1) := by decide +kernel
theorem dX11_field_35 : decode cX11_field 35 = .ok (.getfield 16, 3) := by decide +kernel
theorem dX11_field_38 : decode cX11_field 38 = .ok (.iload_n 2, 1) := by decide +kernel
theorem dX11_field_39 : decode cX11_field 39 = .ok (.baload, 1) := by decide +kernel
theorem dX11_field_40 : decode cX11_field 40 = .ok (.ifCond .ne 7, 3) := by decide +kernel
theorem dX11_field_43 : decode cX11_field 43 = .ok (.iconst 1, 1) := by decide +kernel
theorem dX11_field_44 : decode cX11_field 44 = .ok (.goto 4, 3) := by decide +kernel
theorem dX11_field_47 : decode cX11_field 47 = .ok (.iconst 0, 1) := by decide +kernel
theorem dX11_field_48 : decode cX11_field 48 = .ok (.iastore, 1) := by decide +kernel
theorem dX11_field_49 : decode cX11_field 49 = .ok (.iinc 2 1, 3) := by decide +kernel
theorem dX11_field_52 : decode cX11_field 52 = .ok (.goto (-35), 3) := by decide +kernel
theorem dX11_field_55 : decode cX11_field 55 = .ok (.iconst 1, 1) := by decide +kernel
theorem dX11_field_56 : decode cX11_field 56 = .ok (.ireturn, 1) := by decide +kernel
theorem dX11_bits_0 : decode cX11_bits 0 = .ok (.iload_n 2, 1) := by decide +kernel
theorem dX11_bits_1 : decode cX11_bits 1 = .ok (.iconst 1, 1) := by decide +kernel
theorem dX11_bits_2 : decode cX11_bits 2 = .ok (.if_icmp .lt 9, 3) := by decide +kernel
theorem dX11_bits_5 : decode cX11_bits 5 = .ok (.iload_n 2, 1) := by decide +kernel
theorem dX11_bits_6 : decode cX11_bits 6 = .ok (.bipush 32, 2) := by decide +kernel
theorem dX11_bits_8 : decode cX11_bits 8 = .ok (.if_icmp .le 6, 3) := by decide +kernel
theorem dX11_bits_11 : decode cX11_bits 11 = .ok (.bipush (-12), 2) := by decide +kernel
theorem dX11_bits_13 : decode cX11_bits 13 = .ok (.ireturn, 1) := by decide +kernel
theorem dX11_bits_14 : decode cX11_bits 14 = .ok (.aload_n 0, 1) := by decide +kernel
theorem dX11_bits_15 : decode cX11_bits 15 = .ok (.getfield 79, 3) := by decide +kernel
theorem dX11_bits_18 : decode cX11_bits 18 = .ok (.iload_n 2, 1) := by decide +kernel
theorem dX11_bits_19 : decode cX11_bits 19 = .ok (.iadd, 1) := by decide +kernel
theorem dX11_bits_20 : decode cX11_bits 20 = .ok (.sipush 160, 3) := by decide +kernel
theorem dX11_bits_23 : decode cX11_bits 23 = .ok (.if_icmp .le 6, 3) := by decide +kernel
theorem dX11_bits_26 : decode cX11_bits 26 = .ok (.bipush (-14), 2) := by decide +kernel
theorem dX11_bits_28 : decode cX11_bits 28 = .ok (.ireturn, 1) := by decide +kernel
theorem dX11_bits_29 : decode cX11_bits 29 = .ok (.iconst 0, 1) := by decide +kernel
theorem dX11_bits_30 : decode cX11_bits 30 = .ok (.istore_n 3, 1) := by decide +kernel
theorem dX11_bits_31 : decode cX11_bits 31 = .ok (.iload_n 3, 1) := by decide +kernel
theorem dX11_bits_32 : decode cX11_bits 32 = .ok (.iload_n 2, 1) := by decide +kernel
theorem dX11_bits_33 : decode cX11_bits 33 = .ok (.if_icmp .ge 25, 3) := by decide +kernel
theorem dX11_bits_36 : decode cX11_bits 36 = .ok (.aload_n 0, 1) := by decide +kernel
theorem dX11_bits_37 : decode cX11_bits 37 = .ok (.getfield 33, 3) := by decide +kernel
theorem dX11_bits_40 : decode cX11_bits 40 = .ok (.aload_n 0, 1) := by decide +kernel
theorem dX11_bits_41 : decode cX11_bits 41 = .ok (.getfield 79, 3) := by decide +kernel
theorem dX11_bits_44 : decode cX11_bits 44 = .ok (.iload_n 3, 1) := by decide +kernel
theorem dX11_bits_45 : decode cX11_bits 45 = .ok (.iadd, 1) := by decide +kernel
theorem dX11_bits_46 : decode cX11_bits 46 = .ok (.iload_n 1, 1) := by decide +kernel
theorem dX11_bits_47 : decode cX11_bits 47 = .ok (.iload_n 3, 1) := by decide +kernel
theorem dX11_bits_48 : decode cX11_bits 48 = .ok (.ishr, 1) := by decide +kernel
theorem dX11_bits_49 : decode cX11_bits 49 = .ok (.iconst 1, 1) := by decide +kernel
theorem dX11_bits_50 : decode cX11_bits 50 = .ok (.iand, 1) := by decide +kernel
theorem dX11_bits_51 : decode cX11_bits 51 = .ok (.iastore, 1) := by decide +kernel
theorem dX11_bits_52 : decode cX11_bits 52 = .ok (.iinc 3 1, 3) := by decide +kernel
theorem dX11_bits_55 : decode cX11_bits 55 = .ok (.goto (-24), 3) := by decide +kernel
theorem dX11_bits_58 : decode cX11_bits 58 = .ok (.aload_n 0, 1) := by decide +kernel
theorem dX11_bits_59 : decode cX11_bits 59 = .ok (.dup, 1) := by decide +kernel
theorem dX11_bits_60 : decode cX11_bits 60 = .ok (.getfield 79, 3) := by decide +kernel
theorem dX11_bits_63 : decode cX11_bits 63 = .ok (.iload_n 2, 1) := by decide +kernel
theorem dX11_bits_64 : decode cX11_bits 64 = .ok (.iadd, 1) := by decide +kernel
theorem dX11_bits_65 : decode cX11_bits 65 = .ok (.putfield 79, 3) := by decide +kernel
theorem dX11_bits_68 : decode cX11_bits 68 = .ok (.aload_n 0, 1) := by decide +kernel
theorem dX11_bits_69 : decode cX11_bits 69 = .ok (.getfield 79, 3) := by decide +kernel
theorem dX11_bits_72 : decode cX11_bits 72 = .ok (.ireturn, 1) := by decide +kernel
theorem dX11_parity_0 : decode cX11_parity 0 = .ok (.iconst 1, 1) := by decide +kernel
theorem dX11_parity_1 : decode cX11_parity 1 = .ok (.istore_n 1, 1) := by decide +kernel
theorem dX11_parity_2 : decode cX11_parity 2 = .ok (.iconst 0, 1) := by decide +kernel
theorem dX11_parity_3 : decode cX11_parity 3 = .ok (.istore_n 2, 1) := by decide +kernel
theorem dX11_parity_4 : decode cX11_parity 4 = .ok (.iload_n 2, 1) := by decide +kernel
theorem dX11_parity_5 : decode cX11_parity 5 = .ok (.bipush 8, 2) := by decide +kernel
theorem dX11_parity_7 : decode cX11_parity 7 = .ok (.if_icmp .ge 17, 3) := by decide +kernel
theorem dX11_parity_10 : decode cX11_parity 10 = .ok (.iload_n 1, 1) := by decide +kernel
theorem dX11_parity_11 : decode cX11_parity 11 = .ok (.iload_n 0, 1) := by decide +kernel
theorem dX11_parity_12 : decode cX11_parity 12 = .ok (.iload_n 2, 1) := by decide +kernel
theorem dX11_parity_13 : decode cX11_parity 13 = .ok (.ishr, 1) := by decide +kernel
theorem dX11_parity_14 : decode cX11_parity 14 = .ok (.iconst 1, 1) := by decide +kernel
theorem dX11_parity_15 : decode cX11_parity 15 = .ok (.iand, 1) := by decide +kernel
theorem dX11_parity_16 : decode cX11_parity 16 = .ok (.ixor, 1) := by decide +kernel
theorem dX11_parity_17 : decode cX11_parity 17 = .ok (.istore_n 1, 1) := by decide +kernel
theorem dX11_parity_18 : decode cX11_parity 18 = .ok (.iinc 2 1, 3) := by decide +kernel
theorem dX11_parity_21 : decode cX11_parity 21 = .ok (.goto (-17), 3) := by decide +kernel
theorem dX11_parity_24 : decode cX11_parity 24 = .ok (.iload_n 1, 1) := by decide +kernel
theorem dX11_parity_25 : decode cX11_parity 25 = .ok (.ireturn, 1) := by decide +kernel
theorem dX11_type_0 : decode cX11_type 0 = .ok (.iconst 0, 1) := by decide +kernel
theorem dX11_type_1 : decode cX11_type 1 = .ok (.istore_n 2, 1) := by decide +kernel
theorem dX11_type_2 : decode cX11_type 2 = .ok (.iload_n 2, 1) := by decide +kernel
theorem dX11_type_3 : decode cX11_type 3 = .ok (.bipush 8, 2) := by decide +kernel
theorem dX11_type_5 : decode cX11_type 5 = .ok (.if_icmp .ge 25, 3) := by decide +kernel
theorem dX11_type_8 : decode cX11_type 8 = .ok (.aload_n 0, 1) := by decide +kernel
theorem dX11_type_9 : decode cX11_type 9 = .ok (.getfield 33, 3) := by decide +kernel
theorem dX11_type_12 : decode cX11_type 12 = .ok (.aload_n 0, 1) := by decide +kernel
theorem dX11_type_13 : decode cX11_type 13 = .ok (.getfield 79, 3) := by decide +kernel
theorem dX11_type_16 : decode cX11_type 16 = .ok (.iload_n 2, 1) := by decide +kernel
theorem dX11_type_17 : decode cX11_type 17 = .ok (.iadd, 1) := by decide +kernel
theorem dX11_type_18 : decode cX11_type 18 = .ok (.iload_n 1, 1) := by decide +kernel
theorem dX11_type_19 : decode cX11_type 19 = .ok (.iload_n 2, 1) := by decide +kernel
theorem dX11_type_20 : decode cX11_type 20 = .ok (.ishr, 1) := by decide +kernel
theorem dX11_type_21 : decode cX11_type 21 = .ok (.iconst 1, 1) := by decide +kernel
theorem dX11_type_22 : decode cX11_type 22 = .ok (.iand, 1) := by decide +kernel
theorem dX11_type_23 : decode cX11_type 23 = .ok (.iastore, 1) := by decide +kernel
theorem dX11_type_24 : decode cX11_type 24 = .ok (.iinc 2 1, 3) := by decide +kernel
theorem dX11_type_27 : decode cX11_type 27 = .ok (.goto (-25), 3) := by decide +kernel
theorem dX11_type_30 : decode cX11_type 30 = .ok (.aload_n 0, 1) := by decide +kernel
theorem dX11_type_31 : decode cX11_type 31 = .ok (.getfield 33, 3) := by decide +kernel
theorem dX11_type_34 : decode cX11_type 34 = .ok (.aload_n 0, 1) := by decide +kernel
theorem dX11_type_35 : decode cX11_type 35 = .ok (.getfield 79, 3) := by decide +kernel
theorem dX11_type_38 : decode cX11_type 38 = .ok (.bipush 8, 2) := by decide +kernel
theorem dX11_type_40 : decode cX11_type 40 = .ok (.iadd, 1) := by decide +kernel
theorem dX11_type_41 : decode cX11_type 41 = .ok (.iload_n 1, 1) := by decide +kernel
theorem dX11_type_42 : decode cX11_type 42 = .ok (.invokestatic 82, 3) := by decide +kernel
theorem dX11_type_45 : decode cX11_type 45 = .ok (.iastore, 1) := by decide +kernel
theorem dX11_type_46 : decode cX11_type 46 = .ok (.aload_n 0, 1) := by decide +kernel
theorem dX11_type_47 : decode cX11_type 47 = .ok (.dup, 1) := by decide +kernel
theorem dX11_type_48 : decode cX11_type 48 = .ok (.getfield 79, 3) := by decide +kernel
theorem dX11_type_51 : decode cX11_type 51 = .ok (.bipush 9, 2) := by decide +kernel
theorem dX11_type_53 : decode cX11_type 53 = .ok (.iadd, 1) := by decide +kernel
theorem dX11_type_54 : decode cX11_type 54 = .ok (.putfield 79, 3) := by decide +kernel
theorem dX11_type_57 : decode cX11_type 57 = .ok (.aload_n 0, 1) := by decide +kernel
theorem dX11_type_58 : decode cX11_type 58 = .ok (.getfield 79, 3) := by decide +kernel
theorem dX11_type_61 : decode cX11_type 61 = .ok (.ireturn, 1) := by decide +kernel
theorem dX11_octet_0 : decode cX11_octet 0 = .ok (.aload_n 0, 1) := by decide +kernel
theorem dX11_octet_1 : decode cX11_octet 1 = .ok (.getfield 79, 3) := by decide +kernel
theorem dX11_octet_4 : decode cX11_octet 4 = .ok (.bipush 9, 2) := by decide +kernel
theorem dX11_octet_6 : decode cX11_octet 6 = .ok (.iadd, 1) := by decide +kernel
theorem dX11_octet_7 : decode cX11_octet 7 = .ok (.sipush 160, 3) := by decide +kernel
theorem dX11_octet_10 : decode cX11_octet 10 = .ok (.if_icmp .le 8, 3) := by decide +kernel
theorem dX11_octet_13 : decode cX11_octet 13 = .ok (.bipush (-14), 2) := by decide +kernel
theorem dX11_octet_15 : decode cX11_octet 15 = .ok (.goto 12, 3) := by decide +kernel
theorem dX11_octet_18 : decode cX11_octet 18 = .ok (.aload_n 0, 1) := by decide +kernel
theorem dX11_octet_19 : decode cX11_octet 19 = .ok (.iload_n 1, 1) := by decide +kernel
theorem dX11_octet_20 : decode cX11_octet 20 = .ok (.sipush 255, 3) := by decide +kernel
theorem dX11_octet_23 : decode cX11_octet 23 = .ok (.iand, 1) := by decide +kernel
theorem dX11_octet_24 : decode cX11_octet 24 = .ok (.invokevirtual 86, 3) := by decide +kernel
theorem dX11_octet_27 : decode cX11_octet 27 = .ok (.ireturn, 1) := by decide +kernel
theorem dX11_read_0 : decode cX11_read 0 = .ok (.iconst 0, 1) := by decide +kernel
theorem dX11_read_1 : decode cX11_read 1 = .ok (.istore_n 2, 1) := by decide +kernel
theorem dX11_read_2 : decode cX11_read 2 = .ok (.iconst 0, 1) := by decide +kernel
theorem dX11_read_3 : decode cX11_read 3 = .ok (.istore_n 3, 1) := by decide +kernel
theorem dX11_read_4 : decode cX11_read 4 = .ok (.iload_n 3, 1) := by decide +kernel
theorem dX11_read_5 : decode cX11_read 5 = .ok (.bipush 8, 2) := by decide +kernel
theorem dX11_read_7 : decode cX11_read 7 = .ok (.if_icmp .ge 19, 3) := by decide +kernel
theorem dX11_read_10 : decode cX11_read 10 = .ok (.iload_n 2, 1) := by decide +kernel
theorem dX11_read_11 : decode cX11_read 11 = .ok (.aload_n 0, 1) := by decide +kernel
theorem dX11_read_12 : decode cX11_read 12 = .ok (.iload_n 1, 1) := by decide +kernel
theorem dX11_read_13 : decode cX11_read 13 = .ok (.iload_n 3, 1) := by decide +kernel
theorem dX11_read_14 : decode cX11_read 14 = .ok (.iadd, 1) := by decide +kernel
theorem dX11_read_15 : decode cX11_read 15 = .ok (.iaload, 1) := by decide +kernel
theorem dX11_read_16 : decode cX11_read 16 = .ok (.iload_n 3, 1) := by decide +kernel
theorem dX11_read_17 : decode cX11_read 17 = .ok (.ishl, 1) := by decide +kernel
theorem dX11_read_18 : decode cX11_read 18 = .ok (.ior, 1) := by decide +kernel
theorem dX11_read_19 : decode cX11_read 19 = .ok (.istore_n 2, 1) := by decide +kernel
theorem dX11_read_20 : decode cX11_read 20 = .ok (.iinc 3 1, 3) := by decide +kernel
theorem dX11_read_23 : decode cX11_read 23 = .ok (.goto (-19), 3) := by decide +kernel
theorem dX11_read_26 : decode cX11_read 26 = .ok (.iload_n 2, 1) := by decide +kernel
theorem dX11_read_27 : decode cX11_read 27 = .ok (.invokestatic 82, 3) := by decide +kernel
theorem dX11_read_30 : decode cX11_read 30 = .ok (.aload_n 0, 1) := by decide +kernel
theorem dX11_read_31 : decode cX11_read 31 = .ok (.iload_n 1, 1) := by decide +kernel
theorem dX11_read_32 : decode cX11_read 32 = .ok (.bipush 8, 2) := by decide +kernel
theorem dX11_read_34 : decode cX11_read 34 = .ok (.iadd, 1) := by decide +kernel
theorem dX11_read_35 : decode cX11_read 35 = .ok (.iaload, 1) := by decide +kernel
theorem dX11_read_36 : decode cX11_read 36 = .ok (.if_icmp .ne 7, 3) := by decide +kernel
theorem dX11_read_39 : decode cX11_read 39 = .ok (.iload_n 2, 1) := by decide +kernel
theorem dX11_read_40 : decode cX11_read 40 = .ok (.goto 4, 3) := by decide +kernel
theorem dX11_read_43 : decode cX11_read 43 = .ok (.iconst (-1), 1) := by decide +kernel
theorem dX11_read_44 : decode cX11_read 44 = .ok (.ireturn, 1) := by decide +kernel
theorem dX11_checked_0 : decode cX11_checked 0 = .ok (.iload_n 1, 1) := by decide +kernel
theorem dX11_checked_1 : decode cX11_checked 1 = .ok (.iload_n 0, 1) := by decide +kernel
theorem dX11_checked_2 : decode cX11_checked 2 = .ok (.ixor, 1) := by decide +kernel
theorem dX11_checked_3 : decode cX11_checked 3 = .ok (.sipush 255, 3) := by decide +kernel
theorem dX11_checked_6 : decode cX11_checked 6 = .ok (.iand, 1) := by decide +kernel
theorem dX11_checked_7 : decode cX11_checked 7 = .ok (.istore_n 2, 1) := by decide +kernel
theorem dX11_checked_8 : decode cX11_checked 8 = .ok (.iload_n 2, 1) := by decide +kernel
theorem dX11_checked_9 : decode cX11_checked 9 = .ok (.iload_n 2, 1) := by decide +kernel
theorem dX11_checked_10 : decode cX11_checked 10 = .ok (.bipush 16, 2) := by decide +kernel
theorem dX11_checked_12 : decode cX11_checked 12 = .ok (.imul, 1) := by decide +kernel
theorem dX11_checked_13 : decode cX11_checked 13 = .ok (.ixor, 1) := by decide +kernel
theorem dX11_checked_14 : decode cX11_checked 14 = .ok (.sipush 255, 3) := by decide +kernel
theorem dX11_checked_17 : decode cX11_checked 17 = .ok (.iand, 1) := by decide +kernel
theorem dX11_checked_18 : decode cX11_checked 18 = .ok (.istore_n 2, 1) := by decide +kernel
theorem dX11_checked_19 : decode cX11_checked 19 = .ok (.iload_n 0, 1) := by decide +kernel
theorem dX11_checked_20 : decode cX11_checked 20 = .ok (.sipush 256, 3) := by decide +kernel
theorem dX11_checked_23 : decode cX11_checked 23 = .ok (.idiv, 1) := by decide +kernel
theorem dX11_checked_24 : decode cX11_checked 24 = .ok (.iload_n 2, 1) := by decide +kernel
theorem dX11_checked_25 : decode cX11_checked 25 = .ok (.sipush 256, 3) := by decide +kernel
theorem dX11_checked_28 : decode cX11_checked 28 = .ok (.imul, 1) := by decide +kernel
theorem dX11_checked_29 : decode cX11_checked 29 = .ok (.ixor, 1) := by decide +kernel
theorem dX11_checked_30 : decode cX11_checked 30 = .ok (.iload_n 2, 1) := by decide +kernel
theorem dX11_checked_31 : decode cX11_checked 31 = .ok (.bipush 8, 2) := by decide +kernel
theorem dX11_checked_33 : decode cX11_checked 33 = .ok (.imul, 1) := by decide +kernel
theorem dX11_checked_34 : decode cX11_checked 34 = .ok (.ixor, 1) := by decide +kernel
theorem dX11_checked_35 : decode cX11_checked 35 = .ok (.iload_n 2, 1) := by decide +kernel
theorem dX11_checked_36 : decode cX11_checked 36 = .ok (.bipush 16, 2) := by decide +kernel
theorem dX11_checked_38 : decode cX11_checked 38 = .ok (.idiv, 1) := by decide +kernel
theorem dX11_checked_39 : decode cX11_checked 39 = .ok (.ixor, 1) := by decide +kernel
theorem dX11_checked_40 : decode cX11_checked 40 = .ok (.ldc 89, 2) := by decide +kernel
theorem dX11_checked_42 : decode cX11_checked 42 = .ok (.iand, 1) := by decide +kernel
theorem dX11_checked_43 : decode cX11_checked 43 = .ok (.ireturn, 1) := by decide +kernel
theorem dX11_check_0 : decode cX11_check 0 = .ok (.aload_n 0, 1) := by decide +kernel
theorem dX11_check_1 : decode cX11_check 1 = .ok (.getfield 79, 3) := by decide +kernel
theorem dX11_check_4 : decode cX11_check 4 = .ok (.ifCond .eq 13, 3) := by decide +kernel
theorem dX11_check_7 : decode cX11_check 7 = .ok (.aload_n 0, 1) := by decide +kernel
theorem dX11_check_8 : decode cX11_check 8 = .ok (.getfield 79, 3) := by decide +kernel
theorem dX11_check_11 : decode cX11_check 11 = .ok (.bipush 9, 2) := by decide +kernel
theorem dX11_check_13 : decode cX11_check 13 = .ok (.irem, 1) := by decide +kernel
theorem dX11_check_14 : decode cX11_check 14 = .ok (.ifCond .eq 6, 3) := by decide +kernel
theorem dX11_check_17 : decode cX11_check 17 = .ok (.bipush (-13), 2) := by decide +kernel
theorem dX11_check_19 : decode cX11_check 19 = .ok (.ireturn, 1) := by decide +kernel
theorem dX11_check_20 : decode cX11_check 20 = .ok (.sipush 25443, 3) := by decide +kernel
theorem dX11_check_23 : decode cX11_check 23 = .ok (.istore_n 1, 1) := by decide +kernel
theorem dX11_check_24 : decode cX11_check 24 = .ok (.iconst 0, 1) := by decide +kernel
theorem dX11_check_25 : decode cX11_check 25 = .ok (.istore_n 2, 1) := by decide +kernel
theorem dX11_check_26 : decode cX11_check 26 = .ok (.iload_n 2, 1) := by decide +kernel
theorem dX11_check_27 : decode cX11_check 27 = .ok (.aload_n 0, 1) := by decide +kernel
theorem dX11_check_28 : decode cX11_check 28 = .ok (.getfield 79, 3) := by decide +kernel
theorem dX11_check_31 : decode cX11_check 31 = .ok (.if_icmp .ge 31, 3) := by decide +kernel
theorem dX11_check_34 : decode cX11_check 34 = .ok (.aload_n 0, 1) := by decide +kernel
theorem dX11_check_35 : decode cX11_check 35 = .ok (.getfield 33, 3) := by decide +kernel
theorem dX11_check_38 : decode cX11_check 38 = .ok (.iload_n 2, 1) := by decide +kernel
theorem dX11_check_39 : decode cX11_check 39 = .ok (.invokestatic 90, 3) := by decide +kernel
theorem dX11_check_42 : decode cX11_check 42 = .ok (.istore_n 3, 1) := by decide +kernel
theorem dX11_check_43 : decode cX11_check 43 = .ok (.iload_n 3, 1) := by decide +kernel
theorem dX11_check_44 : decode cX11_check 44 = .ok (.ifCond .ge 6, 3) := by decide +kernel
theorem dX11_check_47 : decode cX11_check 47 = .ok (.bipush (-13), 2) := by decide +kernel
theorem dX11_check_49 : decode cX11_check 49 = .ok (.ireturn, 1) := by decide +kernel
theorem dX11_check_50 : decode cX11_check 50 = .ok (.iload_n 1, 1) := by decide +kernel
theorem dX11_check_51 : decode cX11_check 51 = .ok (.iload_n 3, 1) := by decide +kernel
theorem dX11_check_52 : decode cX11_check 52 = .ok (.invokestatic 94, 3) := by decide +kernel
theorem dX11_check_55 : decode cX11_check 55 = .ok (.istore_n 1, 1) := by decide +kernel
theorem dX11_check_56 : decode cX11_check 56 = .ok (.iinc 2 9, 3) := by decide +kernel
theorem dX11_check_59 : decode cX11_check 59 = .ok (.goto (-33), 3) := by decide +kernel
theorem dX11_check_62 : decode cX11_check 62 = .ok (.aload_n 0, 1) := by decide +kernel
theorem dX11_check_63 : decode cX11_check 63 = .ok (.getfield 79, 3) := by decide +kernel
theorem dX11_check_66 : decode cX11_check 66 = .ok (.bipush 18, 2) := by decide +kernel
theorem dX11_check_68 : decode cX11_check 68 = .ok (.iadd, 1) := by decide +kernel
theorem dX11_check_69 : decode cX11_check 69 = .ok (.sipush 160, 3) := by decide +kernel
theorem dX11_check_72 : decode cX11_check 72 = .ok (.if_icmp .le 6, 3) := by decide +kernel
theorem dX11_check_75 : decode cX11_check 75 = .ok (.bipush (-14), 2) := by decide +kernel
theorem dX11_check_77 : decode cX11_check 77 = .ok (.ireturn, 1) := by decide +kernel
theorem dX11_check_78 : decode cX11_check 78 = .ok (.aload_n 0, 1) := by decide +kernel
theorem dX11_check_79 : decode cX11_check 79 = .ok (.iload_n 1, 1) := by decide +kernel
theorem dX11_check_80 : decode cX11_check 80 = .ok (.sipush 255, 3) := by decide +kernel
theorem dX11_check_83 : decode cX11_check 83 = .ok (.iand, 1) := by decide +kernel
theorem dX11_check_84 : decode cX11_check 84 = .ok (.invokevirtual 86, 3) := by decide +kernel
theorem dX11_check_87 : decode cX11_check 87 = .ok (.pop, 1) := by decide +kernel
theorem dX11_check_88 : decode cX11_check 88 = .ok (.aload_n 0, 1) := by decide +kernel
theorem dX11_check_89 : decode cX11_check 89 = .ok (.iload_n 1, 1) := by decide +kernel
theorem dX11_check_90 : decode cX11_check 90 = .ok (.sipush 256, 3) := by decide +kernel
theorem dX11_check_93 : decode cX11_check 93 = .ok (.idiv, 1) := by decide +kernel
theorem dX11_check_94 : decode cX11_check 94 = .ok (.invokevirtual 86, 3) := by decide +kernel
theorem dX11_check_97 : decode cX11_check 97 = .ok (.ireturn, 1) := by decide +kernel
theorem dX11_understand_0 : decode cX11_understand 0 = .ok (.aload_n 0, 1) := by decide +kernel
theorem dX11_understand_1 : decode cX11_understand 1 = .ok (.iconst 0, 1) := by decide +kernel
theorem dX11_understand_2 : decode cX11_understand 2 = .ok (.putfield 98, 3) := by decide +kernel
theorem dX11_understand_5 : decode cX11_understand 5 = .ok (.aload_n 0, 1) := by decide +kernel
theorem dX11_understand_6 : decode cX11_understand 6 = .ok (.iconst 0, 1) := by decide +kernel
theorem dX11_understand_7 : decode cX11_understand 7 = .ok (.putfield 101, 3) := by decide +kernel
theorem dX11_understand_10 : decode cX11_understand 10 = .ok (.aload_n 0, 1) := by decide +kernel
theorem dX11_understand_11 : decode cX11_understand 11 = .ok (.getfield 104, 3) := by decide +kernel
theorem dX11_understand_14 : decode cX11_understand 14 = .ok (.bipush 7, 2) := by decide +kernel
theorem dX11_understand_16 : decode cX11_understand 16 = .ok (.if_icmp .ne 56, 3) := by decide +kernel
theorem dX11_understand_19 : decode cX11_understand 19 = .ok (.iconst 0, 1) := by decide +kernel
theorem dX11_understand_20 : decode cX11_understand 20 = .ok (.istore_n 1, 1) := by decide +kernel
theorem dX11_understand_21 : decode cX11_understand 21 = .ok (.iconst 0, 1) := by decide +kernel
theorem dX11_understand_22 : decode cX11_understand 22 = .ok (.istore_n 2, 1) := by decide +kernel
theorem dX11_understand_23 : decode cX11_understand 23 = .ok (.iload_n 2, 1) := by decide +kernel
theorem dX11_understand_24 : decode cX11_understand 24 = .ok (.bipush 7, 2) := by decide +kernel
theorem dX11_understand_26 : decode cX11_understand 26 = .ok (.if_icmp .ge 20, 3) := by decide +kernel
theorem dX11_understand_29 : decode cX11_understand 29 = .ok (.iload_n 1, 1) := by decide +kernel
theorem dX11_understand_30 : decode cX11_understand 30 = .ok (.aload_n 0, 1) := by decide +kernel
theorem dX11_understand_31 : decode cX11_understand 31 = .ok (.getfield 36, 3) := by decide +kernel
theorem dX11_understand_34 : decode cX11_understand 34 = .ok (.iload_n 2, 1) := by decide +kernel
theorem dX11_understand_35 : decode cX11_understand 35 = .ok (.iaload, 1) := by decide +kernel
theorem dX11_understand_36 : decode cX11_understand 36 = .ok (.iload_n 2, 1) := by decide +kernel
theorem dX11_understand_37 : decode cX11_understand 37 = .ok (.ishl, 1) := by decide +kernel
theorem dX11_understand_38 : decode cX11_understand 38 = .ok (.ior, 1) := by decide +kernel
theorem dX11_understand_39 : decode cX11_understand 39 = .ok (.istore_n 1, 1) := by decide +kernel
theorem dX11_understand_40 : decode cX11_understand 40 = .ok (.iinc 2 1, 3) := by decide +kernel
theorem dX11_understand_43 : decode cX11_understand 43 = .ok (.goto (-20), 3) := by decide +kernel
theorem dX11_understand_46 : decode cX11_understand 46 = .ok (.aload_n 0, 1) := by decide +kernel
theorem dX11_understand_47 : decode cX11_understand 47 = .ok (.iload_n 1, 1) := by decide +kernel
theorem dX11_understand_48 : decode cX11_understand 48 = .ok (.bipush 38, 2) := by decide +kernel
theorem dX11_understand_50 : decode cX11_understand 50 = .ok (.if_icmp .ne 7, 3) := by decide +kernel
theorem dX11_understand_53 : decode cX11_understand 53 = .ok (.iconst 1, 1) := by decide +kernel
theorem dX11_understand_54 : decode cX11_understand 54 = .ok (.goto 14, 3) := by decide +kernel
theorem dX11_understand_57 : decode cX11_understand 57 = .ok (.iload_n 1, 1) := by decide +kernel
theorem dX11_understand_58 : decode cX11_understand 58 = .ok (.bipush 82, 2) := by decide +kernel
theorem dX11_understand_60 : decode cX11_understand 60 = .ok (.if_icmp .ne 7, 3) := by decide +kernel
theorem dX11_understand_63 : decode cX11_understand 63 = .ok (.iconst 2, 1) := by decide +kernel
theorem dX11_understand_64 : decode cX11_understand 64 = .ok (.goto 4, 3) := by decide +kernel
theorem dX11_understand_67 : decode cX11_understand 67 = .ok (.iconst 0, 1) := by decide +kernel
theorem dX11_understand_68 : decode cX11_understand 68 = .ok (.putfield 98, 3) := by decide +kernel
theorem dX11_understand_71 : decode cX11_understand 71 = .ok (.return_, 1) := by decide +kernel
theorem dX11_understand_72 : decode cX11_understand 72 = .ok (.aload_n 0, 1) := by decide +kernel
theorem dX11_understand_73 : decode cX11_understand 73 = .ok (.getfield 104, 3) := by decide +kernel
theorem dX11_understand_76 : decode cX11_understand 76 = .ok (.bipush 9, 2) := by decide +kernel
theorem dX11_understand_78 : decode cX11_understand 78 = .ok (.idiv, 1) := by decide +kernel
theorem dX11_understand_79 : decode cX11_understand 79 = .ok (.istore_n 1, 1) := by decide +kernel
theorem dX11_understand_80 : decode cX11_understand 80 = .ok (.iconst 0, 1) := by decide +kernel
theorem dX11_understand_81 : decode cX11_understand 81 = .ok (.istore_n 2, 1) := by decide +kernel
theorem dX11_understand_82 : decode cX11_understand 82 = .ok (.iload_n 2, 1) := by decide +kernel
theorem dX11_understand_83 : decode cX11_understand 83 = .ok (.iload_n 1, 1) := by decide +kernel
theorem dX11_understand_84 : decode cX11_understand 84 = .ok (.if_icmp .ge 36, 3) := by decide +kernel
theorem dX11_understand_87 : decode cX11_understand 87 = .ok (.aload_n 0, 1) := by decide +kernel
theorem dX11_understand_88 : decode cX11_understand 88 = .ok (.getfield 39, 3) := by decide +kernel
theorem dX11_understand_91 : decode cX11_understand 91 = .ok (.iload_n 2, 1) := by decide +kernel
theorem dX11_understand_92 : decode cX11_understand 92 = .ok (.aload_n 0, 1) := by decide +kernel
theorem dX11_understand_93 : decode cX11_understand 93 = .ok (.getfield 36, 3) := by decide +kernel
theorem dX11_understand_96 : decode cX11_understand 96 = .ok (.bipush 9, 2) := by decide +kernel
theorem dX11_understand_98 : decode cX11_understand 98 = .ok (.iload_n 2, 1) := by decide +kernel
theorem dX11_understand_99 : decode cX11_understand 99 = .ok (.imul, 1) := by decide +kernel
theorem dX11_understand_100 : decode cX11_understand 100 = .ok (.invokestatic 90, 3) := by decide +kernel
theorem dX11_understand_103 : decode cX11_understand 103 = .ok (.iastore, 1) := by decide +kernel
theorem dX11_understand_104 : decode cX11_understand 104 = .ok (.aload_n 0, 1) := by decide +kernel
theorem dX11_understand_105 : decode cX11_understand 105 = .ok (.getfield 39, 3) := by decide +kernel
theorem dX11_understand_108 : decode cX11_understand 108 = .ok (.iload_n 2, 1) := by decide +kernel
theorem dX11_understand_109 : decode cX11_understand 109 = .ok (.iaload, 1) := by decide +kernel
theorem dX11_understand_110 : decode cX11_understand 110 = .ok (.ifCond .ge 4, 3) := by decide +kernel
theorem dX11_understand_113 : decode cX11_understand 113 = .ok (.return_, 1) := by decide +kernel
theorem dX11_understand_114 : decode cX11_understand 114 = .ok (.iinc 2 1, 3) := by decide +kernel
theorem dX11_understand_117 : decode cX11_understand 117 = .ok (.goto (-35), 3) := by decide +kernel
theorem dX11_understand_120 : decode cX11_understand 120 = .ok (.iload_n 1, 1) := by decide +kernel
theorem dX11_understand_121 : decode cX11_understand 121 = .ok (.iconst 2, 1) := by decide +kernel
theorem dX11_understand_122 : decode cX11_understand 122 = .ok (.if_icmp .ge 4, 3) := by decide +kernel
theorem dX11_understand_125 : decode cX11_understand 125 = .ok (.return_, 1) := by decide +kernel
theorem dX11_understand_126 : decode cX11_understand 126 = .ok (.aload_n 0, 1) := by decide +kernel
theorem dX11_understand_127 : decode cX11_understand 127 = .ok (.getfield 39, 3) := by decide +kernel
theorem dX11_understand_130 : decode cX11_understand 130 = .ok (.iconst 0, 1) := by decide +kernel
theorem dX11_understand_131 : decode cX11_understand 131 = .ok (.iaload, 1) := by decide +kernel
theorem dX11_understand_132 : decode cX11_understand 132 = .ok (.istore_n 2, 1) := by decide +kernel
theorem dX11_understand_133 : decode cX11_understand 133 = .ok (.iload_n 2, 1) := by decide +kernel
theorem dX11_understand_134 : decode cX11_understand 134 = .ok (.sipush 147, 3) := by decide +kernel
theorem dX11_understand_137 : decode cX11_understand 137 = .ok (.if_icmp .eq 17, 3) := by decide +kernel
theorem dX11_understand_140 : decode cX11_understand 140 = .ok (.iload_n 2, 1) := by decide +kernel
theorem dX11_understand_141 : decode cX11_understand 141 = .ok (.sipush 149, 3) := by decide +kernel
theorem dX11_understand_144 : decode cX11_understand 144 = .ok (.if_icmp .eq 10, 3) := by decide +kernel
theorem dX11_understand_147 : decode cX11_understand 147 = .ok (.iload_n 2, 1) := by decide +kernel
theorem dX11_understand_148 : decode cX11_understand 148 = .ok (.sipush 151, 3) := by decide +kernel
theorem dX11_understand_151 : decode cX11_understand 151 = .ok (.if_icmp .ne 7, 3) := by decide +kernel
theorem dX11_understand_154 : decode cX11_understand 154 = .ok (.iconst 1, 1) := by decide +kernel
theorem dX11_understand_155 : decode cX11_understand 155 = .ok (.goto 4, 3) := by decide +kernel
theorem dX11_understand_158 : decode cX11_understand 158 = .ok (.iconst 0, 1) := by decide +kernel
theorem dX11_understand_159 : decode cX11_understand 159 = .ok (.istore_n 3, 1) := by decide +kernel
theorem dX11_understand_160 : decode cX11_understand 160 = .ok (.iload_n 3, 1) := by decide +kernel
theorem dX11_understand_161 : decode cX11_understand 161 = .ok (.ifCond .eq 195, 3) := by decide +kernel
theorem dX11_understand_164 : decode cX11_understand 164 = .ok (.aload_n 0, 1) := by decide +kernel
theorem dX11_understand_165 : decode cX11_understand 165 = .ok (.getfield 39, 3) := by decide +kernel
theorem dX11_understand_168 : decode cX11_understand 168 = .ok (.iconst 1, 1) := by decide +kernel
theorem dX11_understand_169 : decode cX11_understand 169 = .ok (.iaload, 1) := by decide +kernel
theorem dX11_understand_170 : decode cX11_understand 170 = .ok (.bipush 112, 2) := by decide +kernel
theorem dX11_understand_172 : decode cX11_understand 172 = .ok (.if_icmp .eq 184, 3) := by decide +kernel
theorem dX11_understand_175 : decode cX11_understand 175 = .ok (.aload_n 0, 1) := by decide +kernel
theorem dX11_understand_176 : decode cX11_understand 176 = .ok (.getfield 39, 3) := by decide +kernel
theorem dX11_understand_179 : decode cX11_understand 179 = .ok (.iconst 1, 1) := by decide +kernel
theorem dX11_understand_180 : decode cX11_understand 180 = .ok (.iaload, 1) := by decide +kernel
theorem dX11_understand_181 : decode cX11_understand 181 = .ok (.bipush 16, 2) := by decide +kernel
theorem dX11_understand_183 : decode cX11_understand 183 = .ok (.idiv, 1) := by decide +kernel
theorem dX11_understand_184 : decode cX11_understand 184 = .ok (.istore 4, 2) := by decide +kernel
theorem dX11_understand_186 : decode cX11_understand 186 = .ok (.aload_n 0, 1) := by decide +kernel
theorem dX11_understand_187 : decode cX11_understand 187 = .ok (.getfield 39, 3) := by decide +kernel
theorem dX11_understand_190 : decode cX11_understand 190 = .ok (.iconst 1, 1) := by decide +kernel
theorem dX11_understand_191 : decode cX11_understand 191 = .ok (.iaload, 1) := by decide +kernel
theorem dX11_understand_192 : decode cX11_understand 192 = .ok (.bipush 16, 2) := by decide +kernel
theorem dX11_understand_194 : decode cX11_understand 194 = .ok (.irem, 1) := by decide +kernel
theorem dX11_understand_195 : decode cX11_understand 195 = .ok (.istore 5, 2) := by decide +kernel
theorem dX11_understand_197 : decode cX11_understand 197 = .ok (.iload 4, 2) := by decide +kernel
theorem dX11_understand_199 : decode cX11_understand 199 = .ok (.iconst 2, 1) := by decide +kernel
theorem dX11_understand_200 : decode cX11_understand 200 = .ok (.if_icmp .lt 32, 3) := by decide +kernel
theorem dX11_understand_203 : decode cX11_understand 203 = .ok (.iload 4, 2) := by decide +kernel
theorem dX11_understand_205 : decode cX11_understand 205 = .ok (.bipush 6, 2) := by decide +kernel
theorem dX11_understand_207 : decode cX11_understand 207 = .ok (.if_icmp .gt 25, 3) := by decide +kernel
theorem dX11_understand_210 : decode cX11_understand 210 = .ok (.iload 5, 2) := by decide +kernel
theorem dX11_understand_212 : decode cX11_understand 212 = .ok (.bipush 7, 2) := by decide +kernel
theorem dX11_understand_214 : decode cX11_understand 214 = .ok (.if_icmp .gt 18, 3) := by decide +kernel
theorem dX11_understand_217 : decode cX11_understand 217 = .ok (.aload_n 0, 1) := by decide +kernel
theorem dX11_understand_218 : decode cX11_understand 218 = .ok (.getfield 104, 3) := by decide +kernel
theorem dX11_understand_221 : decode cX11_understand 221 = .ok (.bipush 9, 2) := by decide +kernel
theorem dX11_understand_223 : decode cX11_understand 223 = .ok (.iload 4, 2) := by decide +kernel
theorem dX11_understand_225 : decode cX11_understand 225 = .ok (.imul, 1) := by decide +kernel
theorem dX11_understand_226 : decode cX11_understand 226 = .ok (.iload 5, 2) := by decide +kernel
theorem dX11_understand_228 : decode cX11_understand 228 = .ok (.iadd, 1) := by decide +kernel
theorem dX11_understand_229 : decode cX11_understand 229 = .ok (.if_icmp .eq 4, 3) := by decide +kernel
theorem dX11_understand_232 : decode cX11_understand 232 = .ok (.return_, 1) := by decide +kernel
theorem dX11_understand_233 : decode cX11_understand 233 = .ok (.aload_n 0, 1) := by decide +kernel
theorem dX11_understand_234 : decode cX11_understand 234 = .ok (.iconst 3, 1) := by decide +kernel
theorem dX11_understand_235 : decode cX11_understand 235 = .ok (.putfield 98, 3) := by decide +kernel
theorem dX11_understand_238 : decode cX11_understand 238 = .ok (.aload_n 0, 1) := by decide +kernel
theorem dX11_understand_239 : decode cX11_understand 239 = .ok (.iload_n 2, 1) := by decide +kernel
theorem dX11_understand_240 : decode cX11_understand 240 = .ok (.sipush 145, 3) := by decide +kernel
theorem dX11_understand_243 : decode cX11_understand 243 = .ok (.isub, 1) := by decide +kernel
theorem dX11_understand_244 : decode cX11_understand 244 = .ok (.iconst 2, 1) := by decide +kernel
theorem dX11_understand_245 : decode cX11_understand 245 = .ok (.idiv, 1) := by decide +kernel
theorem dX11_understand_246 : decode cX11_understand 246 = .ok (.putfield 107, 3) := by decide +kernel
theorem dX11_understand_249 : decode cX11_understand 249 = .ok (.iconst 0, 1) := by decide +kernel
theorem dX11_understand_250 : decode cX11_understand 250 = .ok (.istore 6, 2) := by decide +kernel
theorem dX11_understand_252 : decode cX11_understand 252 = .ok (.iload 6, 2) := by decide +kernel
theorem dX11_understand_254 : decode cX11_understand 254 = .ok (.bipush 8, 2) := by decide +kernel
theorem dX11_understand_256 : decode cX11_understand 256 = .ok (.iload 4, 2) := by decide +kernel
theorem dX11_understand_258 : decode cX11_understand 258 = .ok (.iconst 2, 1) := by decide +kernel
theorem dX11_understand_259 : decode cX11_understand 259 = .ok (.isub, 1) := by decide +kernel
theorem dX11_understand_260 : decode cX11_understand 260 = .ok (.imul, 1) := by decide +kernel
theorem dX11_understand_261 : decode cX11_understand 261 = .ok (.if_icmp .ge 36, 3) := by decide +kernel
theorem dX11_understand_264 : decode cX11_understand 264 = .ok (.aload_n 0, 1) := by decide +kernel
theorem dX11_understand_265 : decode cX11_understand 265 = .ok (.getfield 42, 3) := by decide +kernel
theorem dX11_understand_268 : decode cX11_understand 268 = .ok (.iload 6, 2) := by decide +kernel
theorem dX11_understand_270 : decode cX11_understand 270 = .ok (.aload_n 0, 1) := by decide +kernel
theorem dX11_understand_271 : decode cX11_understand 271 = .ok (.getfield 39, 3) := by decide +kernel
theorem dX11_understand_274 : decode cX11_understand 274 = .ok (.iconst 2, 1) := by decide +kernel
theorem dX11_understand_275 : decode cX11_understand 275 = .ok (.iload 6, 2) := by decide +kernel
theorem dX11_understand_277 : decode cX11_understand 277 = .ok (.bipush 8, 2) := by decide +kernel
theorem dX11_understand_279 : decode cX11_understand 279 = .ok (.idiv, 1) := by decide +kernel
theorem dX11_understand_280 : decode cX11_understand 280 = .ok (.iadd, 1) := by decide +kernel
theorem dX11_understand_281 : decode cX11_understand 281 = .ok (.iaload, 1) := by decide +kernel
theorem dX11_understand_282 : decode cX11_understand 282 = .ok (.iload 6, 2) := by decide +kernel
theorem dX11_understand_284 : decode cX11_understand 284 = .ok (.bipush 8, 2) := by decide +kernel
theorem dX11_understand_286 : decode cX11_understand 286 = .ok (.irem, 1) := by decide +kernel
theorem dX11_understand_287 : decode cX11_understand 287 = .ok (.ishr, 1) := by decide +kernel
theorem dX11_understand_288 : decode cX11_understand 288 = .ok (.iconst 1, 1) := by decide +kernel
theorem dX11_understand_289 : decode cX11_understand 289 = .ok (.iand, 1) := by decide +kernel
theorem dX11_understand_290 : decode cX11_understand 290 = .ok (.iastore, 1) := by decide +kernel
theorem dX11_understand_291 : decode cX11_understand 291 = .ok (.iinc 6 1, 3) := by decide +kernel
theorem dX11_understand_294 : decode cX11_understand 294 = .ok (.goto (-42), 3) := by decide +kernel
theorem dX11_understand_297 : decode cX11_understand 297 = .ok (.iconst 0, 1) := by decide +kernel
theorem dX11_understand_298 : decode cX11_understand 298 = .ok (.istore 6, 2) := by decide +kernel
theorem dX11_understand_300 : decode cX11_understand 300 = .ok (.iload 6, 2) := by decide +kernel
theorem dX11_understand_302 : decode cX11_understand 302 = .ok (.iload 5, 2) := by decide +kernel
theorem dX11_understand_304 : decode cX11_understand 304 = .ok (.if_icmp .ge 37, 3) := by decide +kernel
theorem dX11_understand_307 : decode cX11_understand 307 = .ok (.aload_n 0, 1) := by decide +kernel
theorem dX11_understand_308 : decode cX11_understand 308 = .ok (.getfield 42, 3) := by decide +kernel
theorem dX11_understand_311 : decode cX11_understand 311 = .ok (.bipush 8, 2) := by decide +kernel
theorem dX11_understand_313 : decode cX11_understand 313 = .ok (.iload 4, 2) := by decide +kernel
theorem dX11_understand_315 : decode cX11_understand 315 = .ok (.iconst 2, 1) := by decide +kernel
theorem dX11_understand_316 : decode cX11_understand 316 = .ok (.isub, 1) := by decide +kernel
theorem dX11_understand_317 : decode cX11_understand 317 = .ok (.imul, 1) := by decide +kernel
theorem dX11_understand_318 : decode cX11_understand 318 = .ok (.iload 6, 2) := by decide +kernel
theorem dX11_understand_320 : decode cX11_understand 320 = .ok (.iadd, 1) := by decide +kernel
theorem dX11_understand_321 : decode cX11_understand 321 = .ok (.aload_n 0, 1) := by decide +kernel
theorem dX11_understand_322 : decode cX11_understand 322 = .ok (.getfield 36, 3) := by decide +kernel
theorem dX11_understand_325 : decode cX11_understand 325 = .ok (.bipush 9, 2) := by decide +kernel
theorem dX11_understand_327 : decode cX11_understand 327 = .ok (.iload 4, 2) := by decide +kernel
theorem dX11_understand_329 : decode cX11_understand 329 = .ok (.imul, 1) := by decide +kernel
theorem dX11_understand_330 : decode cX11_understand 330 = .ok (.iload 6, 2) := by decide +kernel
theorem dX11_understand_332 : decode cX11_understand 332 = .ok (.iadd, 1) := by decide +kernel
theorem dX11_understand_333 : decode cX11_understand 333 = .ok (.iaload, 1) := by decide +kernel
theorem dX11_understand_334 : decode cX11_understand 334 = .ok (.iastore, 1) := by decide +kernel
theorem dX11_understand_335 : decode cX11_understand 335 = .ok (.iinc 6 1, 3) := by decide +kernel
theorem dX11_understand_338 : decode cX11_understand 338 = .ok (.goto (-38), 3) := by decide +kernel
theorem dX11_understand_341 : decode cX11_understand 341 = .ok (.aload_n 0, 1) := by decide +kernel
theorem dX11_understand_342 : decode cX11_understand 342 = .ok (.bipush 8, 2) := by decide +kernel
theorem dX11_understand_344 : decode cX11_understand 344 = .ok (.iload 4, 2) := by decide +kernel
theorem dX11_understand_346 : decode cX11_understand 346 = .ok (.iconst 2, 1) := by decide +kernel
theorem dX11_understand_347 : decode cX11_understand 347 = .ok (.isub, 1) := by decide +kernel
theorem dX11_understand_348 : decode cX11_understand 348 = .ok (.imul, 1) := by decide +kernel
theorem dX11_understand_349 : decode cX11_understand 349 = .ok (.iload 5, 2) := by decide +kernel
theorem dX11_understand_351 : decode cX11_understand 351 = .ok (.iadd, 1) := by decide +kernel
theorem dX11_understand_352 : decode cX11_understand 352 = .ok (.putfield 101, 3) := by decide +kernel
theorem dX11_understand_355 : decode cX11_understand 355 = .ok (.return_, 1) := by decide +kernel
theorem dX11_understand_356 : decode cX11_understand 356 = .ok (.aload_n 0, 1) := by decide +kernel
theorem dX11_understand_357 : decode cX11_understand 357 = .ok (.getfield 104, 3) := by decide +kernel
theorem dX11_understand_360 : decode cX11_understand 360 = .ok (.bipush 9, 2) := by decide +kernel
theorem dX11_understand_362 : decode cX11_understand 362 = .ok (.irem, 1) := by decide +kernel
theorem dX11_understand_363 : decode cX11_understand 363 = .ok (.ifCond .ne 8, 3) := by decide +kernel
theorem dX11_understand_366 : decode cX11_understand 366 = .ok (.iload_n 1, 1) := by decide +kernel
theorem dX11_understand_367 : decode cX11_understand 367 = .ok (.iconst 3, 1) := by decide +kernel
theorem dX11_understand_368 : decode cX11_understand 368 = .ok (.if_icmp .ge 4, 3) := by decide +kernel
theorem dX11_understand_371 : decode cX11_understand 371 = .ok (.return_, 1) := by decide +kernel
theorem dX11_understand_372 : decode cX11_understand 372 = .ok (.sipush 25443, 3) := by decide +kernel
theorem dX11_understand_375 : decode cX11_understand 375 = .ok (.istore 4, 2) := by decide +kernel
theorem dX11_understand_377 : decode cX11_understand 377 = .ok (.iconst 0, 1) := by decide +kernel
theorem dX11_understand_378 : decode cX11_understand 378 = .ok (.istore 5, 2) := by decide +kernel
theorem dX11_understand_380 : decode cX11_understand 380 = .ok (.iload 5, 2) := by decide +kernel
theorem dX11_understand_382 : decode cX11_understand 382 = .ok (.iload_n 1, 1) := by decide +kernel
theorem dX11_understand_383 : decode cX11_understand 383 = .ok (.iconst 2, 1) := by decide +kernel
theorem dX11_understand_384 : decode cX11_understand 384 = .ok (.isub, 1) := by decide +kernel
theorem dX11_understand_385 : decode cX11_understand 385 = .ok (.if_icmp .ge 23, 3) := by decide +kernel
theorem dX11_understand_388 : decode cX11_understand 388 = .ok (.iload 4, 2) := by decide +kernel
theorem dX11_understand_390 : decode cX11_understand 390 = .ok (.aload_n 0, 1) := by decide +kernel
theorem dX11_understand_391 : decode cX11_understand 391 = .ok (.getfield 39, 3) := by decide +kernel
theorem dX11_understand_394 : decode cX11_understand 394 = .ok (.iload 5, 2) := by decide +kernel
theorem dX11_understand_396 : decode cX11_understand 396 = .ok (.iaload, 1) := by decide +kernel
theorem dX11_understand_397 : decode cX11_understand 397 = .ok (.invokestatic 94, 3) := by decide +kernel
theorem dX11_understand_400 : decode cX11_understand 400 = .ok (.istore 4, 2) := by decide +kernel
theorem dX11_understand_402 : decode cX11_understand 402 = .ok (.iinc 5 1, 3) := by decide +kernel
theorem dX11_understand_405 : decode cX11_understand 405 = .ok (.goto (-25), 3) := by decide +kernel
theorem dX11_understand_408 : decode cX11_understand 408 = .ok (.aload_n 0, 1) := by decide +kernel
theorem dX11_understand_409 : decode cX11_understand 409 = .ok (.getfield 39, 3) := by decide +kernel
theorem dX11_understand_412 : decode cX11_understand 412 = .ok (.iload_n 1, 1) := by decide +kernel
theorem dX11_understand_413 : decode cX11_understand 413 = .ok (.iconst 2, 1) := by decide +kernel
theorem dX11_understand_414 : decode cX11_understand 414 = .ok (.isub, 1) := by decide +kernel
theorem dX11_understand_415 : decode cX11_understand 415 = .ok (.iaload, 1) := by decide +kernel
theorem dX11_understand_416 : decode cX11_understand 416 = .ok (.iload 4, 2) := by decide +kernel
theorem dX11_understand_418 : decode cX11_understand 418 = .ok (.sipush 256, 3) := by decide +kernel
theorem dX11_understand_421 : decode cX11_understand 421 = .ok (.irem, 1) := by decide +kernel
theorem dX11_understand_422 : decode cX11_understand 422 = .ok (.if_icmp .ne 20, 3) := by decide +kernel
theorem dX11_understand_425 : decode cX11_understand 425 = .ok (.aload_n 0, 1) := by decide +kernel
theorem dX11_understand_426 : decode cX11_understand 426 = .ok (.getfield 39, 3) := by decide +kernel
theorem dX11_understand_429 : decode cX11_understand 429 = .ok (.iload_n 1, 1) := by decide +kernel
theorem dX11_understand_430 : decode cX11_understand 430 = .ok (.iconst 1, 1) := by decide +kernel
theorem dX11_understand_431 : decode cX11_understand 431 = .ok (.isub, 1) := by decide +kernel
theorem dX11_understand_432 : decode cX11_understand 432 = .ok (.iaload, 1) := by decide +kernel
theorem dX11_understand_433 : decode cX11_understand 433 = .ok (.iload 4, 2) := by decide +kernel
theorem dX11_understand_435 : decode cX11_understand 435 = .ok (.sipush 256, 3) := by decide +kernel
theorem dX11_understand_438 : decode cX11_understand 438 = .ok (.idiv, 1) := by decide +kernel
theorem dX11_understand_439 : decode cX11_understand 439 = .ok (.if_icmp .eq 4, 3) := by decide +kernel
theorem dX11_understand_442 : decode cX11_understand 442 = .ok (.return_, 1) := by decide +kernel
theorem dX11_understand_443 : decode cX11_understand 443 = .ok (.iload_n 3, 1) := by decide +kernel
theorem dX11_understand_444 : decode cX11_understand 444 = .ok (.ifCond .eq 77, 3) := by decide +kernel
theorem dX11_understand_447 : decode cX11_understand 447 = .ok (.iload_n 1, 1) := by decide +kernel
theorem dX11_understand_448 : decode cX11_understand 448 = .ok (.bipush 9, 2) := by decide +kernel
theorem dX11_understand_450 : decode cX11_understand 450 = .ok (.if_icmp .ne 71, 3) := by decide +kernel
theorem dX11_understand_453 : decode cX11_understand 453 = .ok (.aload_n 0, 1) := by decide +kernel
theorem dX11_understand_454 : decode cX11_understand 454 = .ok (.iconst 4, 1) := by decide +kernel
theorem dX11_understand_455 : decode cX11_understand 455 = .ok (.putfield 98, 3) := by decide +kernel
theorem dX11_understand_458 : decode cX11_understand 458 = .ok (.aload_n 0, 1) := by decide +kernel
theorem dX11_understand_459 : decode cX11_understand 459 = .ok (.iload_n 2, 1) := by decide +kernel
theorem dX11_understand_460 : decode cX11_understand 460 = .ok (.sipush 145, 3) := by decide +kernel
theorem dX11_understand_463 : decode cX11_understand 463 = .ok (.isub, 1) := by decide +kernel
theorem dX11_understand_464 : decode cX11_understand 464 = .ok (.iconst 2, 1) := by decide +kernel
theorem dX11_understand_465 : decode cX11_understand 465 = .ok (.idiv, 1) := by decide +kernel
theorem dX11_understand_466 : decode cX11_understand 466 = .ok (.putfield 107, 3) := by decide +kernel
theorem dX11_understand_469 : decode cX11_understand 469 = .ok (.iconst 0, 1) := by decide +kernel
theorem dX11_understand_470 : decode cX11_understand 470 = .ok (.istore 5, 2) := by decide +kernel
theorem dX11_understand_472 : decode cX11_understand 472 = .ok (.iload 5, 2) := by decide +kernel
theorem dX11_understand_474 : decode cX11_understand 474 = .ok (.bipush 40, 2) := by decide +kernel
theorem dX11_understand_476 : decode cX11_understand 476 = .ok (.if_icmp .ge 36, 3) := by decide +kernel
theorem dX11_understand_479 : decode cX11_understand 479 = .ok (.aload_n 0, 1) := by decide +kernel
theorem dX11_understand_480 : decode cX11_understand 480 = .ok (.getfield 42, 3) := by decide +kernel
theorem dX11_understand_483 : decode cX11_understand 483 = .ok (.iload 5, 2) := by decide +kernel
theorem dX11_understand_485 : decode cX11_understand 485 = .ok (.aload_n 0, 1) := by decide +kernel
theorem dX11_understand_486 : decode cX11_understand 486 = .ok (.getfield 39, 3) := by decide +kernel
theorem dX11_understand_489 : decode cX11_understand 489 = .ok (.iconst 2, 1) := by decide +kernel
theorem dX11_understand_490 : decode cX11_understand 490 = .ok (.iload 5, 2) := by decide +kernel
theorem dX11_understand_492 : decode cX11_understand 492 = .ok (.bipush 8, 2) := by decide +kernel
theorem dX11_understand_494 : decode cX11_understand 494 = .ok (.idiv, 1) := by decide +kernel
theorem dX11_understand_495 : decode cX11_understand 495 = .ok (.iadd, 1) := by decide +kernel
theorem dX11_understand_496 : decode cX11_understand 496 = .ok (.iaload, 1) := by decide +kernel
theorem dX11_understand_497 : decode cX11_understand 497 = .ok (.iload 5, 2) := by decide +kernel
theorem dX11_understand_499 : decode cX11_understand 499 = .ok (.bipush 8, 2) := by decide +kernel
theorem dX11_understand_501 : decode cX11_understand 501 = .ok (.irem, 1) := by decide +kernel
theorem dX11_understand_502 : decode cX11_understand 502 = .ok (.ishr, 1) := by decide +kernel
theorem dX11_understand_503 : decode cX11_understand 503 = .ok (.iconst 1, 1) := by decide +kernel
theorem dX11_understand_504 : decode cX11_understand 504 = .ok (.iand, 1) := by decide +kernel
theorem dX11_understand_505 : decode cX11_understand 505 = .ok (.iastore, 1) := by decide +kernel
theorem dX11_understand_506 : decode cX11_understand 506 = .ok (.iinc 5 1, 3) := by decide +kernel
theorem dX11_understand_509 : decode cX11_understand 509 = .ok (.goto (-37), 3) := by decide +kernel
theorem dX11_understand_512 : decode cX11_understand 512 = .ok (.aload_n 0, 1) := by decide +kernel
theorem dX11_understand_513 : decode cX11_understand 513 = .ok (.bipush 40, 2) := by decide +kernel
theorem dX11_understand_515 : decode cX11_understand 515 = .ok (.putfield 101, 3) := by decide +kernel
theorem dX11_understand_518 : decode cX11_understand 518 = .ok (.goto 70, 3) := by decide +kernel
theorem dX11_understand_521 : decode cX11_understand 521 = .ok (.iload_n 1, 1) := by decide +kernel
theorem dX11_understand_522 : decode cX11_understand 522 = .ok (.iconst 4, 1) := by decide +kernel
theorem dX11_understand_523 : decode cX11_understand 523 = .ok (.if_icmp .ne 26, 3) := by decide +kernel
theorem dX11_understand_526 : decode cX11_understand 526 = .ok (.iload_n 2, 1) := by decide +kernel
theorem dX11_understand_527 : decode cX11_understand 527 = .ok (.bipush 80, 2) := by decide +kernel
theorem dX11_understand_529 : decode cX11_understand 529 = .ok (.if_icmp .ne 20, 3) := by decide +kernel
theorem dX11_understand_532 : decode cX11_understand 532 = .ok (.aload_n 0, 1) := by decide +kernel
theorem dX11_understand_533 : decode cX11_understand 533 = .ok (.getfield 39, 3) := by decide +kernel
theorem dX11_understand_536 : decode cX11_understand 536 = .ok (.iconst 1, 1) := by decide +kernel
theorem dX11_understand_537 : decode cX11_understand 537 = .ok (.iaload, 1) := by decide +kernel
theorem dX11_understand_538 : decode cX11_understand 538 = .ok (.ifCond .ne 11, 3) := by decide +kernel
theorem dX11_understand_541 : decode cX11_understand 541 = .ok (.aload_n 0, 1) := by decide +kernel
theorem dX11_understand_542 : decode cX11_understand 542 = .ok (.iconst 5, 1) := by decide +kernel
theorem dX11_understand_543 : decode cX11_understand 543 = .ok (.putfield 98, 3) := by decide +kernel
theorem dX11_understand_546 : decode cX11_understand 546 = .ok (.goto 42, 3) := by decide +kernel
theorem dX11_understand_549 : decode cX11_understand 549 = .ok (.iload_n 1, 1) := by decide +kernel
theorem dX11_understand_550 : decode cX11_understand 550 = .ok (.iconst 4, 1) := by decide +kernel
theorem dX11_understand_551 : decode cX11_understand 551 = .ok (.if_icmp .ne 19, 3) := by decide +kernel
theorem dX11_understand_554 : decode cX11_understand 554 = .ok (.iload_n 2, 1) := by decide +kernel
theorem dX11_understand_555 : decode cX11_understand 555 = .ok (.sipush 224, 3) := by decide +kernel
theorem dX11_understand_558 : decode cX11_understand 558 = .ok (.if_icmp .ne 12, 3) := by decide +kernel
theorem dX11_understand_561 : decode cX11_understand 561 = .ok (.aload_n 0, 1) := by decide +kernel
theorem dX11_understand_562 : decode cX11_understand 562 = .ok (.bipush 6, 2) := by decide +kernel
theorem dX11_understand_564 : decode cX11_understand 564 = .ok (.putfield 98, 3) := by decide +kernel
theorem dX11_understand_567 : decode cX11_understand 567 = .ok (.goto 21, 3) := by decide +kernel
theorem dX11_understand_570 : decode cX11_understand 570 = .ok (.iload_n 1, 1) := by decide +kernel
theorem dX11_understand_571 : decode cX11_understand 571 = .ok (.iconst 3, 1) := by decide +kernel
theorem dX11_understand_572 : decode cX11_understand 572 = .ok (.if_icmp .ne 16, 3) := by decide +kernel
theorem dX11_understand_575 : decode cX11_understand 575 = .ok (.iload_n 2, 1) := by decide +kernel
theorem dX11_understand_576 : decode cX11_understand 576 = .ok (.sipush 194, 3) := by decide +kernel
theorem dX11_understand_579 : decode cX11_understand 579 = .ok (.if_icmp .ne 9, 3) := by decide +kernel
theorem dX11_understand_582 : decode cX11_understand 582 = .ok (.aload_n 0, 1) := by decide +kernel
theorem dX11_understand_583 : decode cX11_understand 583 = .ok (.bipush 7, 2) := by decide +kernel
theorem dX11_understand_585 : decode cX11_understand 585 = .ok (.putfield 98, 3) := by decide +kernel
theorem dX11_understand_588 : decode cX11_understand 588 = .ok (.return_, 1) := by decide +kernel
theorem dX11_say_0 : decode cX11_say 0 = .ok (.iconst 0, 1) := by decide +kernel
theorem dX11_say_1 : decode cX11_say 1 = .ok (.istore_n 2, 1) := by decide +kernel
theorem dX11_say_2 : decode cX11_say 2 = .ok (.iload_n 2, 1) := by decide +kernel
theorem dX11_say_3 : decode cX11_say 3 = .ok (.bipush 8, 2) := by decide +kernel
theorem dX11_say_5 : decode cX11_say 5 = .ok (.if_icmp .ge 25, 3) := by decide +kernel
theorem dX11_say_8 : decode cX11_say 8 = .ok (.aload_n 0, 1) := by decide +kernel
theorem dX11_say_9 : decode cX11_say 9 = .ok (.getfield 45, 3) := by decide +kernel
theorem dX11_say_12 : decode cX11_say 12 = .ok (.aload_n 0, 1) := by decide +kernel
theorem dX11_say_13 : decode cX11_say 13 = .ok (.getfield 110, 3) := by decide +kernel
theorem dX11_say_16 : decode cX11_say 16 = .ok (.iload_n 2, 1) := by decide +kernel
theorem dX11_say_17 : decode cX11_say 17 = .ok (.iadd, 1) := by decide +kernel
theorem dX11_say_18 : decode cX11_say 18 = .ok (.iload_n 1, 1) := by decide +kernel
theorem dX11_say_19 : decode cX11_say 19 = .ok (.iload_n 2, 1) := by decide +kernel
theorem dX11_say_20 : decode cX11_say 20 = .ok (.ishr, 1) := by decide +kernel
theorem dX11_say_21 : decode cX11_say 21 = .ok (.iconst 1, 1) := by decide +kernel
theorem dX11_say_22 : decode cX11_say 22 = .ok (.iand, 1) := by decide +kernel
theorem dX11_say_23 : decode cX11_say 23 = .ok (.iastore, 1) := by decide +kernel
theorem dX11_say_24 : decode cX11_say 24 = .ok (.iinc 2 1, 3) := by decide +kernel
theorem dX11_say_27 : decode cX11_say 27 = .ok (.goto (-25), 3) := by decide +kernel
theorem dX11_say_30 : decode cX11_say 30 = .ok (.aload_n 0, 1) := by decide +kernel
theorem dX11_say_31 : decode cX11_say 31 = .ok (.getfield 45, 3) := by decide +kernel
theorem dX11_say_34 : decode cX11_say 34 = .ok (.aload_n 0, 1) := by decide +kernel
theorem dX11_say_35 : decode cX11_say 35 = .ok (.getfield 110, 3) := by decide +kernel
theorem dX11_say_38 : decode cX11_say 38 = .ok (.bipush 8, 2) := by decide +kernel
theorem dX11_say_40 : decode cX11_say 40 = .ok (.iadd, 1) := by decide +kernel
theorem dX11_say_41 : decode cX11_say 41 = .ok (.iload_n 1, 1) := by decide +kernel
theorem dX11_say_42 : decode cX11_say 42 = .ok (.invokestatic 82, 3) := by decide +kernel
theorem dX11_say_45 : decode cX11_say 45 = .ok (.iastore, 1) := by decide +kernel
theorem dX11_say_46 : decode cX11_say 46 = .ok (.aload_n 0, 1) := by decide +kernel
theorem dX11_say_47 : decode cX11_say 47 = .ok (.dup, 1) := by decide +kernel
theorem dX11_say_48 : decode cX11_say 48 = .ok (.getfield 110, 3) := by decide +kernel
theorem dX11_say_51 : decode cX11_say 51 = .ok (.bipush 9, 2) := by decide +kernel
theorem dX11_say_53 : decode cX11_say 53 = .ok (.iadd, 1) := by decide +kernel
theorem dX11_say_54 : decode cX11_say 54 = .ok (.putfield 110, 3) := by decide +kernel
theorem dX11_say_57 : decode cX11_say 57 = .ok (.return_, 1) := by decide +kernel
theorem dX11_sayChecked_0 : decode cX11_sayChecked 0 = .ok (.sipush 25443, 3) := by decide +kernel
theorem dX11_sayChecked_3 : decode cX11_sayChecked 3 = .ok (.istore_n 2, 1) := by decide +kernel
theorem dX11_sayChecked_4 : decode cX11_sayChecked 4 = .ok (.iload_n 1, 1) := by decide +kernel
theorem dX11_sayChecked_5 : decode cX11_sayChecked 5 = .ok (.istore_n 3, 1) := by decide +kernel
theorem dX11_sayChecked_6 : decode cX11_sayChecked 6 = .ok (.iload_n 3, 1) := by decide +kernel
theorem dX11_sayChecked_7 : decode cX11_sayChecked 7 = .ok (.aload_n 0, 1) := by decide +kernel
theorem dX11_sayChecked_8 : decode cX11_sayChecked 8 = .ok (.getfield 110, 3) := by decide +kernel
theorem dX11_sayChecked_11 : decode cX11_sayChecked 11 = .ok (.if_icmp .ge 22, 3) := by decide +kernel
theorem dX11_sayChecked_14 : decode cX11_sayChecked 14 = .ok (.iload_n 2, 1) := by decide +kernel
theorem dX11_sayChecked_15 : decode cX11_sayChecked 15 = .ok (.aload_n 0, 1) := by decide +kernel
theorem dX11_sayChecked_16 : decode cX11_sayChecked 16 = .ok (.getfield 45, 3) := by decide +kernel
theorem dX11_sayChecked_19 : decode cX11_sayChecked 19 = .ok (.iload_n 3, 1) := by decide +kernel
theorem dX11_sayChecked_20 : decode cX11_sayChecked 20 = .ok (.invokestatic 90, 3) := by decide +kernel
theorem dX11_sayChecked_23 : decode cX11_sayChecked 23 = .ok (.invokestatic 94, 3) := by decide +kernel
theorem dX11_sayChecked_26 : decode cX11_sayChecked 26 = .ok (.istore_n 2, 1) := by decide +kernel
theorem dX11_sayChecked_27 : decode cX11_sayChecked 27 = .ok (.iinc 3 9, 3) := by decide +kernel
theorem dX11_sayChecked_30 : decode cX11_sayChecked 30 = .ok (.goto (-24), 3) := by decide +kernel
theorem dX11_sayChecked_33 : decode cX11_sayChecked 33 = .ok (.aload_n 0, 1) := by decide +kernel
theorem dX11_sayChecked_34 : decode cX11_sayChecked 34 = .ok (.iload_n 2, 1) := by decide +kernel
theorem dX11_sayChecked_35 : decode cX11_sayChecked 35 = .ok (.sipush 256, 3) := by decide +kernel
theorem dX11_sayChecked_38 : decode cX11_sayChecked 38 = .ok (.irem, 1) := by decide +kernel
theorem dX11_sayChecked_39 : decode cX11_sayChecked 39 = .ok (.invokevirtual 113, 3) := by decide +kernel
theorem dX11_sayChecked_42 : decode cX11_sayChecked 42 = .ok (.aload_n 0, 1) := by decide +kernel
theorem dX11_sayChecked_43 : decode cX11_sayChecked 43 = .ok (.iload_n 2, 1) := by decide +kernel
theorem dX11_sayChecked_44 : decode cX11_sayChecked 44 = .ok (.sipush 256, 3) := by decide +kernel
theorem dX11_sayChecked_47 : decode cX11_sayChecked 47 = .ok (.idiv, 1) := by decide +kernel
theorem dX11_sayChecked_48 : decode cX11_sayChecked 48 = .ok (.invokevirtual 113, 3) := by decide +kernel
theorem dX11_sayChecked_51 : decode cX11_sayChecked 51 = .ok (.return_, 1) := by decide +kernel
theorem dX11_shows_0 : decode cX11_shows 0 = .ok (.bipush 120, 2) := by decide +kernel
theorem dX11_shows_2 : decode cX11_shows 2 = .ok (.iload_n 1, 1) := by decide +kernel
theorem dX11_shows_3 : decode cX11_shows 3 = .ok (.imul, 1) := by decide +kernel
theorem dX11_shows_4 : decode cX11_shows 4 = .ok (.bipush 40, 2) := by decide +kernel
theorem dX11_shows_6 : decode cX11_shows 6 = .ok (.aload_n 0, 1) := by decide +kernel
theorem dX11_shows_7 : decode cX11_shows 7 = .ok (.getfield 23, 3) := by decide +kernel
theorem dX11_shows_10 : decode cX11_shows 10 = .ok (.iload_n 1, 1) := by decide +kernel
theorem dX11_shows_11 : decode cX11_shows 11 = .ok (.iaload, 1) := by decide +kernel
theorem dX11_shows_12 : decode cX11_shows 12 = .ok (.iconst 1, 1) := by decide +kernel
theorem dX11_shows_13 : decode cX11_shows 13 = .ok (.isub, 1) := by decide +kernel
theorem dX11_shows_14 : decode cX11_shows 14 = .ok (.imul, 1) := by decide +kernel
theorem dX11_shows_15 : decode cX11_shows 15 = .ok (.iadd, 1) := by decide +kernel
theorem dX11_shows_16 : decode cX11_shows 16 = .ok (.istore_n 2, 1) := by decide +kernel
theorem dX11_shows_17 : decode cX11_shows 17 = .ok (.iconst 0, 1) := by decide +kernel
theorem dX11_shows_18 : decode cX11_shows 18 = .ok (.istore_n 3, 1) := by decide +kernel
theorem dX11_shows_19 : decode cX11_shows 19 = .ok (.iload_n 3, 1) := by decide +kernel
theorem dX11_shows_20 : decode cX11_shows 20 = .ok (.aload_n 0, 1) := by decide +kernel
theorem dX11_shows_21 : decode cX11_shows 21 = .ok (.getfield 101, 3) := by decide +kernel
theorem dX11_shows_24 : decode cX11_shows 24 = .ok (.if_icmp .ge 28, 3) := by decide +kernel
theorem dX11_shows_27 : decode cX11_shows 27 = .ok (.aload_n 0, 1) := by decide +kernel
theorem dX11_shows_28 : decode cX11_shows 28 = .ok (.getfield 26, 3) := by decide +kernel
theorem dX11_shows_31 : decode cX11_shows 31 = .ok (.iload_n 2, 1) := by decide +kernel
theorem dX11_shows_32 : decode cX11_shows 32 = .ok (.iload_n 3, 1) := by decide +kernel
theorem dX11_shows_33 : decode cX11_shows 33 = .ok (.iadd, 1) := by decide +kernel
theorem dX11_shows_34 : decode cX11_shows 34 = .ok (.iaload, 1) := by decide +kernel
theorem dX11_shows_35 : decode cX11_shows 35 = .ok (.aload_n 0, 1) := by decide +kernel
theorem dX11_shows_36 : decode cX11_shows 36 = .ok (.getfield 42, 3) := by decide +kernel
theorem dX11_shows_39 : decode cX11_shows 39 = .ok (.iload_n 3, 1) := by decide +kernel
theorem dX11_shows_40 : decode cX11_shows 40 = .ok (.iaload, 1) := by decide +kernel
theorem dX11_shows_41 : decode cX11_shows 41 = .ok (.if_icmp .eq 5, 3) := by decide +kernel
theorem dX11_shows_44 : decode cX11_shows 44 = .ok (.iconst 0, 1) := by decide +kernel
theorem dX11_shows_45 : decode cX11_shows 45 = .ok (.ireturn, 1) := by decide +kernel
theorem dX11_shows_46 : decode cX11_shows 46 = .ok (.iinc 3 1, 3) := by decide +kernel
theorem dX11_shows_49 : decode cX11_shows 49 = .ok (.goto (-30), 3) := by decide +kernel
theorem dX11_shows_52 : decode cX11_shows 52 = .ok (.iconst 1, 1) := by decide +kernel
theorem dX11_shows_53 : decode cX11_shows 53 = .ok (.ireturn, 1) := by decide +kernel
theorem dX11_sayRest_0 : decode cX11_sayRest 0 = .ok (.bipush 120, 2) := by decide +kernel
theorem dX11_sayRest_2 : decode cX11_sayRest 2 = .ok (.iload_n 1, 1) := by decide +kernel
theorem dX11_sayRest_3 : decode cX11_sayRest 3 = .ok (.imul, 1) := by decide +kernel
theorem dX11_sayRest_4 : decode cX11_sayRest 4 = .ok (.bipush 40, 2) := by decide +kernel
theorem dX11_sayRest_6 : decode cX11_sayRest 6 = .ok (.aload_n 0, 1) := by decide +kernel
theorem dX11_sayRest_7 : decode cX11_sayRest 7 = .ok (.getfield 23, 3) := by decide +kernel
theorem dX11_sayRest_10 : decode cX11_sayRest 10 = .ok (.iload_n 1, 1) := by decide +kernel
theorem dX11_sayRest_11 : decode cX11_sayRest 11 = .ok (.iaload, 1) := by decide +kernel
theorem dX11_sayRest_12 : decode cX11_sayRest 12 = .ok (.iconst 1, 1) := by decide +kernel
theorem dX11_sayRest_13 : decode cX11_sayRest 13 = .ok (.isub, 1) := by decide +kernel
theorem dX11_sayRest_14 : decode cX11_sayRest 14 = .ok (.imul, 1) := by decide +kernel
theorem dX11_sayRest_15 : decode cX11_sayRest 15 = .ok (.iadd, 1) := by decide +kernel
theorem dX11_sayRest_16 : decode cX11_sayRest 16 = .ok (.istore_n 2, 1) := by decide +kernel
theorem dX11_sayRest_17 : decode cX11_sayRest 17 = .ok (.aload_n 0, 1) := by decide +kernel
theorem dX11_sayRest_18 : decode cX11_sayRest 18 = .ok (.getfield 101, 3) := by decide +kernel
theorem dX11_sayRest_21 : decode cX11_sayRest 21 = .ok (.istore_n 3, 1) := by decide +kernel
theorem dX11_sayRest_22 : decode cX11_sayRest 22 = .ok (.iload_n 3, 1) := by decide +kernel
theorem dX11_sayRest_23 : decode cX11_sayRest 23 = .ok (.bipush 40, 2) := by decide +kernel
theorem dX11_sayRest_25 : decode cX11_sayRest 25 = .ok (.if_icmp .ge 113, 3) := by decide +kernel
theorem dX11_sayRest_28 : decode cX11_sayRest 28 = .ok (.aload_n 0, 1) := by decide +kernel
theorem dX11_sayRest_29 : decode cX11_sayRest 29 = .ok (.getfield 45, 3) := by decide +kernel
theorem dX11_sayRest_32 : decode cX11_sayRest 32 = .ok (.aload_n 0, 1) := by decide +kernel
theorem dX11_sayRest_33 : decode cX11_sayRest 33 = .ok (.getfield 110, 3) := by decide +kernel
theorem dX11_sayRest_36 : decode cX11_sayRest 36 = .ok (.aload_n 0, 1) := by decide +kernel
theorem dX11_sayRest_37 : decode cX11_sayRest 37 = .ok (.getfield 26, 3) := by decide +kernel
theorem dX11_sayRest_40 : decode cX11_sayRest 40 = .ok (.iload_n 2, 1) := by decide +kernel
theorem dX11_sayRest_41 : decode cX11_sayRest 41 = .ok (.iload_n 3, 1) := by decide +kernel
theorem dX11_sayRest_42 : decode cX11_sayRest 42 = .ok (.iadd, 1) := by decide +kernel
theorem dX11_sayRest_43 : decode cX11_sayRest 43 = .ok (.iaload, 1) := by decide +kernel
theorem dX11_sayRest_44 : decode cX11_sayRest 44 = .ok (.iastore, 1) := by decide +kernel
theorem dX11_sayRest_45 : decode cX11_sayRest 45 = .ok (.aload_n 0, 1) := by decide +kernel
theorem dX11_sayRest_46 : decode cX11_sayRest 46 = .ok (.dup, 1) := by decide +kernel
theorem dX11_sayRest_47 : decode cX11_sayRest 47 = .ok (.getfield 110, 3) := by decide +kernel
theorem dX11_sayRest_50 : decode cX11_sayRest 50 = .ok (.iconst 1, 1) := by decide +kernel
theorem dX11_sayRest_51 : decode cX11_sayRest 51 = .ok (.iadd, 1) := by decide +kernel
theorem dX11_sayRest_52 : decode cX11_sayRest 52 = .ok (.putfield 110, 3) := by decide +kernel
theorem dX11_sayRest_55 : decode cX11_sayRest 55 = .ok (.iload_n 3, 1) := by decide +kernel
theorem dX11_sayRest_56 : decode cX11_sayRest 56 = .ok (.bipush 8, 2) := by decide +kernel
theorem dX11_sayRest_58 : decode cX11_sayRest 58 = .ok (.irem, 1) := by decide +kernel
theorem dX11_sayRest_59 : decode cX11_sayRest 59 = .ok (.bipush 7, 2) := by decide +kernel
theorem dX11_sayRest_61 : decode cX11_sayRest 61 = .ok (.if_icmp .ge 6, 3) := by decide +kernel
theorem dX11_sayRest_64 : decode cX11_sayRest 64 = .ok (.goto 68, 3) := by decide +kernel
theorem dX11_sayRest_67 : decode cX11_sayRest 67 = .ok (.iconst 0, 1) := by decide +kernel
theorem dX11_sayRest_68 : decode cX11_sayRest 68 = .ok (.istore 4, 2) := by decide +kernel
theorem dX11_sayRest_70 : decode cX11_sayRest 70 = .ok (.iconst 0, 1) := by decide +kernel
theorem dX11_sayRest_71 : decode cX11_sayRest 71 = .ok (.istore 5, 2) := by decide +kernel
theorem dX11_sayRest_73 : decode cX11_sayRest 73 = .ok (.iload 5, 2) := by decide +kernel
theorem dX11_sayRest_75 : decode cX11_sayRest 75 = .ok (.bipush 8, 2) := by decide +kernel
theorem dX11_sayRest_77 : decode cX11_sayRest 77 = .ok (.if_icmp .ge 31, 3) := by decide +kernel
theorem dX11_sayRest_80 : decode cX11_sayRest 80 = .ok (.iload 4, 2) := by decide +kernel
theorem dX11_sayRest_82 : decode cX11_sayRest 82 = .ok (.aload_n 0, 1) := by decide +kernel
theorem dX11_sayRest_83 : decode cX11_sayRest 83 = .ok (.getfield 26, 3) := by decide +kernel
theorem dX11_sayRest_86 : decode cX11_sayRest 86 = .ok (.iload_n 2, 1) := by decide +kernel
theorem dX11_sayRest_87 : decode cX11_sayRest 87 = .ok (.iload_n 3, 1) := by decide +kernel
theorem dX11_sayRest_88 : decode cX11_sayRest 88 = .ok (.iadd, 1) := by decide +kernel
theorem dX11_sayRest_89 : decode cX11_sayRest 89 = .ok (.bipush 7, 2) := by decide +kernel
theorem dX11_sayRest_91 : decode cX11_sayRest 91 = .ok (.isub, 1) := by decide +kernel
theorem dX11_sayRest_92 : decode cX11_sayRest 92 = .ok (.iload 5, 2) := by decide +kernel
theorem dX11_sayRest_94 : decode cX11_sayRest 94 = .ok (.iadd, 1) := by decide +kernel
theorem dX11_sayRest_95 : decode cX11_sayRest 95 = .ok (.iaload, 1) := by decide +kernel
theorem dX11_sayRest_96 : decode cX11_sayRest 96 = .ok (.iload 5, 2) := by decide +kernel
theorem dX11_sayRest_98 : decode cX11_sayRest 98 = .ok (.ishl, 1) := by decide +kernel
theorem dX11_sayRest_99 : decode cX11_sayRest 99 = .ok (.ior, 1) := by decide +kernel
theorem dX11_sayRest_100 : decode cX11_sayRest 100 = .ok (.istore 4, 2) := by decide +kernel
theorem dX11_sayRest_102 : decode cX11_sayRest 102 = .ok (.iinc 5 1, 3) := by decide +kernel
theorem dX11_sayRest_105 : decode cX11_sayRest 105 = .ok (.goto (-32), 3) := by decide +kernel
theorem dX11_sayRest_108 : decode cX11_sayRest 108 = .ok (.aload_n 0, 1) := by decide +kernel
theorem dX11_sayRest_109 : decode cX11_sayRest 109 = .ok (.getfield 45, 3) := by decide +kernel
theorem dX11_sayRest_112 : decode cX11_sayRest 112 = .ok (.aload_n 0, 1) := by decide +kernel
theorem dX11_sayRest_113 : decode cX11_sayRest 113 = .ok (.getfield 110, 3) := by decide +kernel
theorem dX11_sayRest_116 : decode cX11_sayRest 116 = .ok (.iload 4, 2) := by decide +kernel
theorem dX11_sayRest_118 : decode cX11_sayRest 118 = .ok (.invokestatic 82, 3) := by decide +kernel
theorem dX11_sayRest_121 : decode cX11_sayRest 121 = .ok (.iastore, 1) := by decide +kernel
theorem dX11_sayRest_122 : decode cX11_sayRest 122 = .ok (.aload_n 0, 1) := by decide +kernel
theorem dX11_sayRest_123 : decode cX11_sayRest 123 = .ok (.dup, 1) := by decide +kernel
theorem dX11_sayRest_124 : decode cX11_sayRest 124 = .ok (.getfield 110, 3) := by decide +kernel
theorem dX11_sayRest_127 : decode cX11_sayRest 127 = .ok (.iconst 1, 1) := by decide +kernel
theorem dX11_sayRest_128 : decode cX11_sayRest 128 = .ok (.iadd, 1) := by decide +kernel
theorem dX11_sayRest_129 : decode cX11_sayRest 129 = .ok (.putfield 110, 3) := by decide +kernel
theorem dX11_sayRest_132 : decode cX11_sayRest 132 = .ok (.iinc 3 1, 3) := by decide +kernel
theorem dX11_sayRest_135 : decode cX11_sayRest 135 = .ok (.goto (-113), 3) := by decide +kernel
theorem dX11_sayRest_138 : decode cX11_sayRest 138 = .ok (.return_, 1) := by decide +kernel
theorem dX11_back_0 : decode cX11_back 0 = .ok (.aload_n 0, 1) := by decide +kernel
theorem dX11_back_1 : decode cX11_back 1 = .ok (.getfield 20, 3) := by decide +kernel
theorem dX11_back_4 : decode cX11_back 4 = .ok (.iload_n 1, 1) := by decide +kernel
theorem dX11_back_5 : decode cX11_back 5 = .ok (.aload_n 0, 1) := by decide +kernel
theorem dX11_back_6 : decode cX11_back 6 = .ok (.getfield 20, 3) := by decide +kernel
theorem dX11_back_9 : decode cX11_back 9 = .ok (.iload_n 1, 1) := by decide +kernel
theorem dX11_back_10 : decode cX11_back 10 = .ok (.iaload, 1) := by decide +kernel
theorem dX11_back_11 : decode cX11_back 11 = .ok (.iconst 4, 1) := by decide +kernel
theorem dX11_back_12 : decode cX11_back 12 = .ok (.if_icmp .ge 7, 3) := by decide +kernel
theorem dX11_back_15 : decode cX11_back 15 = .ok (.iconst 1, 1) := by decide +kernel
theorem dX11_back_16 : decode cX11_back 16 = .ok (.goto 4, 3) := by decide +kernel
theorem dX11_back_19 : decode cX11_back 19 = .ok (.iconst 4, 1) := by decide +kernel
theorem dX11_back_20 : decode cX11_back 20 = .ok (.iastore, 1) := by decide +kernel
theorem dX11_back_21 : decode cX11_back 21 = .ok (.return_, 1) := by decide +kernel
theorem dX11_begin_0 : decode cX11_begin 0 = .ok (.aload_n 0, 1) := by decide +kernel
theorem dX11_begin_1 : decode cX11_begin 1 = .ok (.getfield 20, 3) := by decide +kernel
theorem dX11_begin_4 : decode cX11_begin 4 = .ok (.iload_n 1, 1) := by decide +kernel
theorem dX11_begin_5 : decode cX11_begin 5 = .ok (.iload_n 2, 1) := by decide +kernel
theorem dX11_begin_6 : decode cX11_begin 6 = .ok (.iastore, 1) := by decide +kernel
theorem dX11_begin_7 : decode cX11_begin 7 = .ok (.aload_n 0, 1) := by decide +kernel
theorem dX11_begin_8 : decode cX11_begin 8 = .ok (.getfield 23, 3) := by decide +kernel
theorem dX11_begin_11 : decode cX11_begin 11 = .ok (.iload_n 1, 1) := by decide +kernel
theorem dX11_begin_12 : decode cX11_begin 12 = .ok (.iconst 1, 1) := by decide +kernel
theorem dX11_begin_13 : decode cX11_begin 13 = .ok (.iastore, 1) := by decide +kernel
theorem dX11_begin_14 : decode cX11_begin 14 = .ok (.aload_n 0, 1) := by decide +kernel
theorem dX11_begin_15 : decode cX11_begin 15 = .ok (.aload_n 0, 1) := by decide +kernel
theorem dX11_begin_16 : decode cX11_begin 16 = .ok (.getfield 7, 3) := by decide +kernel
theorem dX11_begin_19 : decode cX11_begin 19 = .ok (.iload_n 1, 1) := by decide +kernel
theorem dX11_begin_20 : decode cX11_begin 20 = .ok (.iaload, 1) := by decide +kernel
theorem dX11_begin_21 : decode cX11_begin 21 = .ok (.iconst 4, 1) := by decide +kernel
theorem dX11_begin_22 : decode cX11_begin 22 = .ok (.if_icmp .ne 7, 3) := by decide +kernel
theorem dX11_begin_25 : decode cX11_begin 25 = .ok (.iconst 4, 1) := by decide +kernel
theorem dX11_begin_26 : decode cX11_begin 26 = .ok (.goto 22, 3) := by decide +kernel
theorem dX11_begin_29 : decode cX11_begin 29 = .ok (.aload_n 0, 1) := by decide +kernel
theorem dX11_begin_30 : decode cX11_begin 30 = .ok (.getfield 7, 3) := by decide +kernel
theorem dX11_begin_33 : decode cX11_begin 33 = .ok (.iload_n 1, 1) := by decide +kernel
theorem dX11_begin_34 : decode cX11_begin 34 = .ok (.iaload, 1) := by decide +kernel
theorem dX11_begin_35 : decode cX11_begin 35 = .ok (.bipush 7, 2) := by decide +kernel
theorem dX11_begin_37 : decode cX11_begin 37 = .ok (.if_icmp .ne 8, 3) := by decide +kernel
theorem dX11_begin_40 : decode cX11_begin 40 = .ok (.bipush 68, 2) := by decide +kernel
theorem dX11_begin_42 : decode cX11_begin 42 = .ok (.goto 6, 3) := by decide +kernel
theorem dX11_begin_45 : decode cX11_begin 45 = .ok (.sipush 132, 3) := by decide +kernel
theorem dX11_begin_48 : decode cX11_begin 48 = .ok (.invokevirtual 113, 3) := by decide +kernel
theorem dX11_begin_51 : decode cX11_begin 51 = .ok (.aload_n 0, 1) := by decide +kernel
theorem dX11_begin_52 : decode cX11_begin 52 = .ok (.iconst 0, 1) := by decide +kernel
theorem dX11_begin_53 : decode cX11_begin 53 = .ok (.invokevirtual 113, 3) := by decide +kernel
theorem dX11_begin_56 : decode cX11_begin 56 = .ok (.return_, 1) := by decide +kernel
theorem dX11_hear_0 : decode cX11_hear 0 = .ok (.aload_n 0, 1) := by decide +kernel
theorem dX11_hear_1 : decode cX11_hear 1 = .ok (.getfield 20, 3) := by decide +kernel
theorem dX11_hear_4 : decode cX11_hear 4 = .ok (.iload_n 1, 1) := by decide +kernel
theorem dX11_hear_5 : decode cX11_hear 5 = .ok (.iaload, 1) := by decide +kernel
theorem dX11_hear_6 : decode cX11_hear 6 = .ok (.istore_n 2, 1) := by decide +kernel
theorem dX11_hear_7 : decode cX11_hear 7 = .ok (.iload_n 2, 1) := by decide +kernel
theorem dX11_hear_8 : decode cX11_hear 8 = .ok (.iconst 1, 1) := by decide +kernel
theorem dX11_hear_9 : decode cX11_hear 9 = .ok (.if_icmp .ne 28, 3) := by decide +kernel
theorem dX11_hear_12 : decode cX11_hear 12 = .ok (.aload_n 0, 1) := by decide +kernel
theorem dX11_hear_13 : decode cX11_hear 13 = .ok (.getfield 98, 3) := by decide +kernel
theorem dX11_hear_16 : decode cX11_hear 16 = .ok (.iconst 1, 1) := by decide +kernel
theorem dX11_hear_17 : decode cX11_hear 17 = .ok (.if_icmp .eq 11, 3) := by decide +kernel
theorem dX11_hear_20 : decode cX11_hear 20 = .ok (.aload_n 0, 1) := by decide +kernel
theorem dX11_hear_21 : decode cX11_hear 21 = .ok (.getfield 98, 3) := by decide +kernel
theorem dX11_hear_24 : decode cX11_hear 24 = .ok (.iconst 2, 1) := by decide +kernel
theorem dX11_hear_25 : decode cX11_hear 25 = .ok (.if_icmp .ne 323, 3) := by decide +kernel
theorem dX11_hear_28 : decode cX11_hear 28 = .ok (.aload_n 0, 1) := by decide +kernel
theorem dX11_hear_29 : decode cX11_hear 29 = .ok (.iload_n 1, 1) := by decide +kernel
theorem dX11_hear_30 : decode cX11_hear 30 = .ok (.iconst 2, 1) := by decide +kernel
theorem dX11_hear_31 : decode cX11_hear 31 = .ok (.invokevirtual 117, 3) := by decide +kernel
theorem dX11_hear_34 : decode cX11_hear 34 = .ok (.goto 314, 3) := by decide +kernel
theorem dX11_hear_37 : decode cX11_hear 37 = .ok (.iload_n 2, 1) := by decide +kernel
theorem dX11_hear_38 : decode cX11_hear 38 = .ok (.iconst 4, 1) := by decide +kernel
theorem dX11_hear_39 : decode cX11_hear 39 = .ok (.if_icmp .ne 20, 3) := by decide +kernel
theorem dX11_hear_42 : decode cX11_hear 42 = .ok (.aload_n 0, 1) := by decide +kernel
theorem dX11_hear_43 : decode cX11_hear 43 = .ok (.getfield 98, 3) := by decide +kernel
theorem dX11_hear_46 : decode cX11_hear 46 = .ok (.iconst 2, 1) := by decide +kernel
theorem dX11_hear_47 : decode cX11_hear 47 = .ok (.if_icmp .ne 301, 3) := by decide +kernel
theorem dX11_hear_50 : decode cX11_hear 50 = .ok (.aload_n 0, 1) := by decide +kernel
theorem dX11_hear_51 : decode cX11_hear 51 = .ok (.iload_n 1, 1) := by decide +kernel
theorem dX11_hear_52 : decode cX11_hear 52 = .ok (.iconst 5, 1) := by decide +kernel
theorem dX11_hear_53 : decode cX11_hear 53 = .ok (.invokevirtual 117, 3) := by decide +kernel
theorem dX11_hear_56 : decode cX11_hear 56 = .ok (.goto 292, 3) := by decide +kernel
theorem dX11_hear_59 : decode cX11_hear 59 = .ok (.iload_n 2, 1) := by decide +kernel
theorem dX11_hear_60 : decode cX11_hear 60 = .ok (.iconst 2, 1) := by decide +kernel
theorem dX11_hear_61 : decode cX11_hear 61 = .ok (.if_icmp .eq 8, 3) := by decide +kernel
theorem dX11_hear_64 : decode cX11_hear 64 = .ok (.iload_n 2, 1) := by decide +kernel
theorem dX11_hear_65 : decode cX11_hear 65 = .ok (.iconst 5, 1) := by decide +kernel
theorem dX11_hear_66 : decode cX11_hear 66 = .ok (.if_icmp .ne 166, 3) := by decide +kernel
theorem dX11_hear_69 : decode cX11_hear 69 = .ok (.aload_n 0, 1) := by decide +kernel
theorem dX11_hear_70 : decode cX11_hear 70 = .ok (.getfield 98, 3) := by decide +kernel
theorem dX11_hear_73 : decode cX11_hear 73 = .ok (.iconst 3, 1) := by decide +kernel
theorem dX11_hear_74 : decode cX11_hear 74 = .ok (.if_icmp .eq 11, 3) := by decide +kernel
theorem dX11_hear_77 : decode cX11_hear 77 = .ok (.aload_n 0, 1) := by decide +kernel
theorem dX11_hear_78 : decode cX11_hear 78 = .ok (.getfield 98, 3) := by decide +kernel
theorem dX11_hear_81 : decode cX11_hear 81 = .ok (.iconst 4, 1) := by decide +kernel
theorem dX11_hear_82 : decode cX11_hear 82 = .ok (.if_icmp .ne 20, 3) := by decide +kernel
theorem dX11_hear_85 : decode cX11_hear 85 = .ok (.aload_n 0, 1) := by decide +kernel
theorem dX11_hear_86 : decode cX11_hear 86 = .ok (.getfield 107, 3) := by decide +kernel
theorem dX11_hear_89 : decode cX11_hear 89 = .ok (.aload_n 0, 1) := by decide +kernel
theorem dX11_hear_90 : decode cX11_hear 90 = .ok (.getfield 23, 3) := by decide +kernel
theorem dX11_hear_93 : decode cX11_hear 93 = .ok (.iload_n 1, 1) := by decide +kernel
theorem dX11_hear_94 : decode cX11_hear 94 = .ok (.iaload, 1) := by decide +kernel
theorem dX11_hear_95 : decode cX11_hear 95 = .ok (.if_icmp .ne 7, 3) := by decide +kernel
theorem dX11_hear_98 : decode cX11_hear 98 = .ok (.iconst 1, 1) := by decide +kernel
theorem dX11_hear_99 : decode cX11_hear 99 = .ok (.goto 4, 3) := by decide +kernel
theorem dX11_hear_102 : decode cX11_hear 102 = .ok (.iconst 0, 1) := by decide +kernel
theorem dX11_hear_103 : decode cX11_hear 103 = .ok (.istore_n 3, 1) := by decide +kernel
theorem dX11_hear_104 : decode cX11_hear 104 = .ok (.iload_n 3, 1) := by decide +kernel
theorem dX11_hear_105 : decode cX11_hear 105 = .ok (.ifCond .eq 15, 3) := by decide +kernel
theorem dX11_hear_108 : decode cX11_hear 108 = .ok (.aload_n 0, 1) := by decide +kernel
theorem dX11_hear_109 : decode cX11_hear 109 = .ok (.iload_n 1, 1) := by decide +kernel
theorem dX11_hear_110 : decode cX11_hear 110 = .ok (.invokevirtual 121, 3) := by decide +kernel
theorem dX11_hear_113 : decode cX11_hear 113 = .ok (.ifCond .eq 7, 3) := by decide +kernel
theorem dX11_hear_116 : decode cX11_hear 116 = .ok (.iconst 1, 1) := by decide +kernel
theorem dX11_hear_117 : decode cX11_hear 117 = .ok (.goto 4, 3) := by decide +kernel
theorem dX11_hear_120 : decode cX11_hear 120 = .ok (.iconst 0, 1) := by decide +kernel
theorem dX11_hear_121 : decode cX11_hear 121 = .ok (.istore 4, 2) := by decide +kernel
theorem dX11_hear_123 : decode cX11_hear 123 = .ok (.iload_n 3, 1) := by decide +kernel
theorem dX11_hear_124 : decode cX11_hear 124 = .ok (.ifCond .eq 24, 3) := by decide +kernel
theorem dX11_hear_127 : decode cX11_hear 127 = .ok (.aload_n 0, 1) := by decide +kernel
theorem dX11_hear_128 : decode cX11_hear 128 = .ok (.getfield 98, 3) := by decide +kernel
theorem dX11_hear_131 : decode cX11_hear 131 = .ok (.iconst 3, 1) := by decide +kernel
theorem dX11_hear_132 : decode cX11_hear 132 = .ok (.if_icmp .ne 16, 3) := by decide +kernel
theorem dX11_hear_135 : decode cX11_hear 135 = .ok (.iload 4, 2) := by decide +kernel
theorem dX11_hear_137 : decode cX11_hear 137 = .ok (.ifCond .eq 92, 3) := by decide +kernel
theorem dX11_hear_140 : decode cX11_hear 140 = .ok (.aload_n 0, 1) := by decide +kernel
theorem dX11_hear_141 : decode cX11_hear 141 = .ok (.iload_n 1, 1) := by decide +kernel
theorem dX11_hear_142 : decode cX11_hear 142 = .ok (.invokevirtual 124, 3) := by decide +kernel
theorem dX11_hear_145 : decode cX11_hear 145 = .ok (.goto 84, 3) := by decide +kernel
theorem dX11_hear_148 : decode cX11_hear 148 = .ok (.iload 4, 2) := by decide +kernel
theorem dX11_hear_150 : decode cX11_hear 150 = .ok (.ifCond .eq 74, 3) := by decide +kernel
theorem dX11_hear_153 : decode cX11_hear 153 = .ok (.aload_n 0, 1) := by decide +kernel
theorem dX11_hear_154 : decode cX11_hear 154 = .ok (.getfield 23, 3) := by decide +kernel
theorem dX11_hear_157 : decode cX11_hear 157 = .ok (.iload_n 1, 1) := by decide +kernel
theorem dX11_hear_158 : decode cX11_hear 158 = .ok (.iaload, 1) := by decide +kernel
theorem dX11_hear_159 : decode cX11_hear 159 = .ok (.aload_n 0, 1) := by decide +kernel
theorem dX11_hear_160 : decode cX11_hear 160 = .ok (.iload_n 1, 1) := by decide +kernel
theorem dX11_hear_161 : decode cX11_hear 161 = .ok (.invokevirtual 127, 3) := by decide +kernel
theorem dX11_hear_164 : decode cX11_hear 164 = .ok (.if_icmp .ne 7, 3) := by decide +kernel
theorem dX11_hear_167 : decode cX11_hear 167 = .ok (.iconst 1, 1) := by decide +kernel
theorem dX11_hear_168 : decode cX11_hear 168 = .ok (.goto 4, 3) := by decide +kernel
theorem dX11_hear_171 : decode cX11_hear 171 = .ok (.iconst 0, 1) := by decide +kernel
theorem dX11_hear_172 : decode cX11_hear 172 = .ok (.istore 5, 2) := by decide +kernel
theorem dX11_hear_174 : decode cX11_hear 174 = .ok (.aload_n 0, 1) := by decide +kernel
theorem dX11_hear_175 : decode cX11_hear 175 = .ok (.iload 5, 2) := by decide +kernel
theorem dX11_hear_177 : decode cX11_hear 177 = .ok (.ifCond .eq 8, 3) := by decide +kernel
theorem dX11_hear_180 : decode cX11_hear 180 = .ok (.bipush 32, 2) := by decide +kernel
theorem dX11_hear_182 : decode cX11_hear 182 = .ok (.goto 4, 3) := by decide +kernel
theorem dX11_hear_185 : decode cX11_hear 185 = .ok (.iconst 4, 1) := by decide +kernel
theorem dX11_hear_186 : decode cX11_hear 186 = .ok (.invokevirtual 113, 3) := by decide +kernel
theorem dX11_hear_189 : decode cX11_hear 189 = .ok (.aload_n 0, 1) := by decide +kernel
theorem dX11_hear_190 : decode cX11_hear 190 = .ok (.iconst 0, 1) := by decide +kernel
theorem dX11_hear_191 : decode cX11_hear 191 = .ok (.invokevirtual 130, 3) := by decide +kernel
theorem dX11_hear_194 : decode cX11_hear 194 = .ok (.iload 5, 2) := by decide +kernel
theorem dX11_hear_196 : decode cX11_hear 196 = .ok (.ifCond .eq 15, 3) := by decide +kernel
theorem dX11_hear_199 : decode cX11_hear 199 = .ok (.aload_n 0, 1) := by decide +kernel
theorem dX11_hear_200 : decode cX11_hear 200 = .ok (.getfield 20, 3) := by decide +kernel
theorem dX11_hear_203 : decode cX11_hear 203 = .ok (.iload_n 1, 1) := by decide +kernel
theorem dX11_hear_204 : decode cX11_hear 204 = .ok (.iload_n 2, 1) := by decide +kernel
theorem dX11_hear_205 : decode cX11_hear 205 = .ok (.iconst 1, 1) := by decide +kernel
theorem dX11_hear_206 : decode cX11_hear 206 = .ok (.iadd, 1) := by decide +kernel
theorem dX11_hear_207 : decode cX11_hear 207 = .ok (.iastore, 1) := by decide +kernel
theorem dX11_hear_208 : decode cX11_hear 208 = .ok (.goto 13, 3) := by decide +kernel
theorem dX11_hear_211 : decode cX11_hear 211 = .ok (.aload_n 0, 1) := by decide +kernel
theorem dX11_hear_212 : decode cX11_hear 212 = .ok (.getfield 23, 3) := by decide +kernel
theorem dX11_hear_215 : decode cX11_hear 215 = .ok (.iload_n 1, 1) := by decide +kernel
theorem dX11_hear_216 : decode cX11_hear 216 = .ok (.dup2, 1) := by decide +kernel
theorem dX11_hear_217 : decode cX11_hear 217 = .ok (.iaload, 1) := by decide +kernel
theorem dX11_hear_218 : decode cX11_hear 218 = .ok (.iconst 1, 1) := by decide +kernel
theorem dX11_hear_219 : decode cX11_hear 219 = .ok (.iadd, 1) := by decide +kernel
theorem dX11_hear_220 : decode cX11_hear 220 = .ok (.iastore, 1) := by decide +kernel
theorem dX11_hear_221 : decode cX11_hear 221 = .ok (.goto 8, 3) := by decide +kernel
theorem dX11_hear_224 : decode cX11_hear 224 = .ok (.aload_n 0, 1) := by decide +kernel
theorem dX11_hear_225 : decode cX11_hear 225 = .ok (.iload_n 1, 1) := by decide +kernel
theorem dX11_hear_226 : decode cX11_hear 226 = .ok (.invokevirtual 133, 3) := by decide +kernel
theorem dX11_hear_229 : decode cX11_hear 229 = .ok (.goto 119, 3) := by decide +kernel
theorem dX11_hear_232 : decode cX11_hear 232 = .ok (.iload_n 2, 1) := by decide +kernel
theorem dX11_hear_233 : decode cX11_hear 233 = .ok (.iconst 3, 1) := by decide +kernel
theorem dX11_hear_234 : decode cX11_hear 234 = .ok (.if_icmp .eq 9, 3) := by decide +kernel
theorem dX11_hear_237 : decode cX11_hear 237 = .ok (.iload_n 2, 1) := by decide +kernel
theorem dX11_hear_238 : decode cX11_hear 238 = .ok (.bipush 6, 2) := by decide +kernel
theorem dX11_hear_240 : decode cX11_hear 240 = .ok (.if_icmp .ne 74, 3) := by decide +kernel
theorem dX11_hear_243 : decode cX11_hear 243 = .ok (.aload_n 0, 1) := by decide +kernel
theorem dX11_hear_244 : decode cX11_hear 244 = .ok (.getfield 98, 3) := by decide +kernel
theorem dX11_hear_247 : decode cX11_hear 247 = .ok (.iconst 5, 1) := by decide +kernel
theorem dX11_hear_248 : decode cX11_hear 248 = .ok (.if_icmp .ne 13, 3) := by decide +kernel
theorem dX11_hear_251 : decode cX11_hear 251 = .ok (.aload_n 0, 1) := by decide +kernel
theorem dX11_hear_252 : decode cX11_hear 252 = .ok (.getfield 20, 3) := by decide +kernel
theorem dX11_hear_255 : decode cX11_hear 255 = .ok (.iload_n 1, 1) := by decide +kernel
theorem dX11_hear_256 : decode cX11_hear 256 = .ok (.iconst 4, 1) := by decide +kernel
theorem dX11_hear_257 : decode cX11_hear 257 = .ok (.iastore, 1) := by decide +kernel
theorem dX11_hear_258 : decode cX11_hear 258 = .ok (.goto 90, 3) := by decide +kernel
theorem dX11_hear_261 : decode cX11_hear 261 = .ok (.aload_n 0, 1) := by decide +kernel
theorem dX11_hear_262 : decode cX11_hear 262 = .ok (.getfield 98, 3) := by decide +kernel
theorem dX11_hear_265 : decode cX11_hear 265 = .ok (.bipush 6, 2) := by decide +kernel
theorem dX11_hear_267 : decode cX11_hear 267 = .ok (.if_icmp .ne 39, 3) := by decide +kernel
theorem dX11_hear_270 : decode cX11_hear 270 = .ok (.aload_n 0, 1) := by decide +kernel
theorem dX11_hear_271 : decode cX11_hear 271 = .ok (.getfield 20, 3) := by decide +kernel
theorem dX11_hear_274 : decode cX11_hear 274 = .ok (.iload_n 1, 1) := by decide +kernel
theorem dX11_hear_275 : decode cX11_hear 275 = .ok (.bipush 7, 2) := by decide +kernel
theorem dX11_hear_277 : decode cX11_hear 277 = .ok (.iastore, 1) := by decide +kernel
theorem dX11_hear_278 : decode cX11_hear 278 = .ok (.aload_n 0, 1) := by decide +kernel
theorem dX11_hear_279 : decode cX11_hear 279 = .ok (.iconst 3, 1) := by decide +kernel
theorem dX11_hear_280 : decode cX11_hear 280 = .ok (.invokevirtual 113, 3) := by decide +kernel
theorem dX11_hear_283 : decode cX11_hear 283 = .ok (.aload_n 0, 1) := by decide +kernel
theorem dX11_hear_284 : decode cX11_hear 284 = .ok (.iconst 2, 1) := by decide +kernel
theorem dX11_hear_285 : decode cX11_hear 285 = .ok (.invokevirtual 113, 3) := by decide +kernel
theorem dX11_hear_288 : decode cX11_hear 288 = .ok (.aload_n 0, 1) := by decide +kernel
theorem dX11_hear_289 : decode cX11_hear 289 = .ok (.aload_n 0, 1) := by decide +kernel
theorem dX11_hear_290 : decode cX11_hear 290 = .ok (.getfield 39, 3) := by decide +kernel
theorem dX11_hear_293 : decode cX11_hear 293 = .ok (.iconst 1, 1) := by decide +kernel
theorem dX11_hear_294 : decode cX11_hear 294 = .ok (.iaload, 1) := by decide +kernel
theorem dX11_hear_295 : decode cX11_hear 295 = .ok (.invokevirtual 113, 3) := by decide +kernel
theorem dX11_hear_298 : decode cX11_hear 298 = .ok (.aload_n 0, 1) := by decide +kernel
theorem dX11_hear_299 : decode cX11_hear 299 = .ok (.iconst 0, 1) := by decide +kernel
theorem dX11_hear_300 : decode cX11_hear 300 = .ok (.invokevirtual 130, 3) := by decide +kernel
theorem dX11_hear_303 : decode cX11_hear 303 = .ok (.goto 45, 3) := by decide +kernel
theorem dX11_hear_306 : decode cX11_hear 306 = .ok (.aload_n 0, 1) := by decide +kernel
theorem dX11_hear_307 : decode cX11_hear 307 = .ok (.iload_n 1, 1) := by decide +kernel
theorem dX11_hear_308 : decode cX11_hear 308 = .ok (.invokevirtual 133, 3) := by decide +kernel
theorem dX11_hear_311 : decode cX11_hear 311 = .ok (.goto 37, 3) := by decide +kernel
theorem dX11_hear_314 : decode cX11_hear 314 = .ok (.iload_n 2, 1) := by decide +kernel
theorem dX11_hear_315 : decode cX11_hear 315 = .ok (.bipush 7, 2) := by decide +kernel
theorem dX11_hear_317 : decode cX11_hear 317 = .ok (.if_icmp .ne 31, 3) := by decide +kernel
theorem dX11_hear_320 : decode cX11_hear 320 = .ok (.aload_n 0, 1) := by decide +kernel
theorem dX11_hear_321 : decode cX11_hear 321 = .ok (.getfield 98, 3) := by decide +kernel
theorem dX11_hear_324 : decode cX11_hear 324 = .ok (.bipush 7, 2) := by decide +kernel
theorem dX11_hear_326 : decode cX11_hear 326 = .ok (.if_icmp .ne 22, 3) := by decide +kernel
theorem dX11_hear_329 : decode cX11_hear 329 = .ok (.aload_n 0, 1) := by decide +kernel
theorem dX11_hear_330 : decode cX11_hear 330 = .ok (.getfield 20, 3) := by decide +kernel
theorem dX11_hear_333 : decode cX11_hear 333 = .ok (.iload_n 1, 1) := by decide +kernel
theorem dX11_hear_334 : decode cX11_hear 334 = .ok (.iconst 4, 1) := by decide +kernel
theorem dX11_hear_335 : decode cX11_hear 335 = .ok (.iastore, 1) := by decide +kernel
theorem dX11_hear_336 : decode cX11_hear 336 = .ok (.aload_n 0, 1) := by decide +kernel
theorem dX11_hear_337 : decode cX11_hear 337 = .ok (.sipush 194, 3) := by decide +kernel
theorem dX11_hear_340 : decode cX11_hear 340 = .ok (.invokevirtual 113, 3) := by decide +kernel
theorem dX11_hear_343 : decode cX11_hear 343 = .ok (.aload_n 0, 1) := by decide +kernel
theorem dX11_hear_344 : decode cX11_hear 344 = .ok (.iconst 0, 1) := by decide +kernel
theorem dX11_hear_345 : decode cX11_hear 345 = .ok (.invokevirtual 130, 3) := by decide +kernel
theorem dX11_hear_348 : decode cX11_hear 348 = .ok (.return_, 1) := by decide +kernel
theorem dX11_send_0 : decode cX11_send 0 = .ok (.aload_n 0, 1) := by decide +kernel
theorem dX11_send_1 : decode cX11_send 1 = .ok (.dup, 1) := by decide +kernel
theorem dX11_send_2 : decode cX11_send 2 = .ok (.getfield 136, 3) := by decide +kernel
theorem dX11_send_5 : decode cX11_send 5 = .ok (.iconst 1, 1) := by decide +kernel
theorem dX11_send_6 : decode cX11_send 6 = .ok (.iadd, 1) := by decide +kernel
theorem dX11_send_7 : decode cX11_send 7 = .ok (.putfield 136, 3) := by decide +kernel
theorem dX11_send_10 : decode cX11_send 10 = .ok (.aload_n 0, 1) := by decide +kernel
theorem dX11_send_11 : decode cX11_send 11 = .ok (.iconst 0, 1) := by decide +kernel
theorem dX11_send_12 : decode cX11_send 12 = .ok (.putfield 139, 3) := by decide +kernel
theorem dX11_send_15 : decode cX11_send 15 = .ok (.aload_n 0, 1) := by decide +kernel
theorem dX11_send_16 : decode cX11_send 16 = .ok (.getfield 29, 3) := by decide +kernel
theorem dX11_send_19 : decode cX11_send 19 = .ok (.ifCond .ne 4, 3) := by decide +kernel
theorem dX11_send_22 : decode cX11_send 22 = .ok (.return_, 1) := by decide +kernel
theorem dX11_send_23 : decode cX11_send 23 = .ok (.aload_n 0, 1) := by decide +kernel
theorem dX11_send_24 : decode cX11_send 24 = .ok (.invokevirtual 142, 3) := by decide +kernel
theorem dX11_send_27 : decode cX11_send 27 = .ok (.iconst 1, 1) := by decide +kernel
theorem dX11_send_28 : decode cX11_send 28 = .ok (.istore_n 1, 1) := by decide +kernel
theorem dX11_send_29 : decode cX11_send 29 = .ok (.iload_n 1, 1) := by decide +kernel
theorem dX11_send_30 : decode cX11_send 30 = .ok (.aload_n 0, 1) := by decide +kernel
theorem dX11_send_31 : decode cX11_send 31 = .ok (.getfield 67, 3) := by decide +kernel
theorem dX11_send_34 : decode cX11_send 34 = .ok (.if_icmp .gt 96, 3) := by decide +kernel
theorem dX11_send_37 : decode cX11_send 37 = .ok (.aload_n 0, 1) := by decide +kernel
theorem dX11_send_38 : decode cX11_send 38 = .ok (.iconst 0, 1) := by decide +kernel
theorem dX11_send_39 : decode cX11_send 39 = .ok (.putfield 110, 3) := by decide +kernel
theorem dX11_send_42 : decode cX11_send 42 = .ok (.aload_n 0, 1) := by decide +kernel
theorem dX11_send_43 : decode cX11_send 43 = .ok (.getfield 20, 3) := by decide +kernel
theorem dX11_send_46 : decode cX11_send 46 = .ok (.iload_n 1, 1) := by decide +kernel
theorem dX11_send_47 : decode cX11_send 47 = .ok (.iaload, 1) := by decide +kernel
theorem dX11_send_48 : decode cX11_send 48 = .ok (.ifCond .le 8, 3) := by decide +kernel
theorem dX11_send_51 : decode cX11_send 51 = .ok (.aload_n 0, 1) := by decide +kernel
theorem dX11_send_52 : decode cX11_send 52 = .ok (.iload_n 1, 1) := by decide +kernel
theorem dX11_send_53 : decode cX11_send 53 = .ok (.invokevirtual 145, 3) := by decide +kernel
theorem dX11_send_56 : decode cX11_send 56 = .ok (.iconst 0, 1) := by decide +kernel
theorem dX11_send_57 : decode cX11_send 57 = .ok (.istore_n 2, 1) := by decide +kernel
theorem dX11_send_58 : decode cX11_send 58 = .ok (.iload_n 2, 1) := by decide +kernel
theorem dX11_send_59 : decode cX11_send 59 = .ok (.aload_n 0, 1) := by decide +kernel
theorem dX11_send_60 : decode cX11_send 60 = .ok (.getfield 110, 3) := by decide +kernel
theorem dX11_send_63 : decode cX11_send 63 = .ok (.if_icmp .ge 61, 3) := by decide +kernel
theorem dX11_send_66 : decode cX11_send 66 = .ok (.iload_n 2, 1) := by decide +kernel
theorem dX11_send_67 : decode cX11_send 67 = .ok (.aload_n 0, 1) := by decide +kernel
theorem dX11_send_68 : decode cX11_send 68 = .ok (.getfield 139, 3) := by decide +kernel
theorem dX11_send_71 : decode cX11_send 71 = .ok (.if_icmp .lt 25, 3) := by decide +kernel
theorem dX11_send_74 : decode cX11_send 74 = .ok (.aload_n 0, 1) := by decide +kernel
theorem dX11_send_75 : decode cX11_send 75 = .ok (.getfield 48, 3) := by decide +kernel
theorem dX11_send_78 : decode cX11_send 78 = .ok (.iload_n 2, 1) := by decide +kernel
theorem dX11_send_79 : decode cX11_send 79 = .ok (.aload_n 0, 1) := by decide +kernel
theorem dX11_send_80 : decode cX11_send 80 = .ok (.getfield 45, 3) := by decide +kernel
theorem dX11_send_83 : decode cX11_send 83 = .ok (.iload_n 2, 1) := by decide +kernel
theorem dX11_send_84 : decode cX11_send 84 = .ok (.iaload, 1) := by decide +kernel
theorem dX11_send_85 : decode cX11_send 85 = .ok (.iastore, 1) := by decide +kernel
theorem dX11_send_86 : decode cX11_send 86 = .ok (.aload_n 0, 1) := by decide +kernel
theorem dX11_send_87 : decode cX11_send 87 = .ok (.iload_n 2, 1) := by decide +kernel
theorem dX11_send_88 : decode cX11_send 88 = .ok (.iconst 1, 1) := by decide +kernel
theorem dX11_send_89 : decode cX11_send 89 = .ok (.iadd, 1) := by decide +kernel
theorem dX11_send_90 : decode cX11_send 90 = .ok (.putfield 139, 3) := by decide +kernel
theorem dX11_send_93 : decode cX11_send 93 = .ok (.goto 25, 3) := by decide +kernel
theorem dX11_send_96 : decode cX11_send 96 = .ok (.aload_n 0, 1) := by decide +kernel
theorem dX11_send_97 : decode cX11_send 97 = .ok (.getfield 48, 3) := by decide +kernel
theorem dX11_send_100 : decode cX11_send 100 = .ok (.iload_n 2, 1) := by decide +kernel
theorem dX11_send_101 : decode cX11_send 101 = .ok (.iaload, 1) := by decide +kernel
theorem dX11_send_102 : decode cX11_send 102 = .ok (.aload_n 0, 1) := by decide +kernel
theorem dX11_send_103 : decode cX11_send 103 = .ok (.getfield 45, 3) := by decide +kernel
theorem dX11_send_106 : decode cX11_send 106 = .ok (.iload_n 2, 1) := by decide +kernel
theorem dX11_send_107 : decode cX11_send 107 = .ok (.iaload, 1) := by decide +kernel
theorem dX11_send_108 : decode cX11_send 108 = .ok (.if_icmp .eq 10, 3) := by decide +kernel
theorem dX11_send_111 : decode cX11_send 111 = .ok (.aload_n 0, 1) := by decide +kernel
theorem dX11_send_112 : decode cX11_send 112 = .ok (.getfield 48, 3) := by decide +kernel
theorem dX11_send_115 : decode cX11_send 115 = .ok (.iload_n 2, 1) := by decide +kernel
theorem dX11_send_116 : decode cX11_send 116 = .ok (.iconst 2, 1) := by decide +kernel
theorem dX11_send_117 : decode cX11_send 117 = .ok (.iastore, 1) := by decide +kernel
theorem dX11_send_118 : decode cX11_send 118 = .ok (.iinc 2 1, 3) := by decide +kernel
theorem dX11_send_121 : decode cX11_send 121 = .ok (.goto (-63), 3) := by decide +kernel
theorem dX11_send_124 : decode cX11_send 124 = .ok (.iinc 1 1, 3) := by decide +kernel
theorem dX11_send_127 : decode cX11_send 127 = .ok (.goto (-98), 3) := by decide +kernel
theorem dX11_send_130 : decode cX11_send 130 = .ok (.return_, 1) := by decide +kernel
theorem dX11_go_0 : decode cX11_go 0 = .ok (.aload_n 0, 1) := by decide +kernel
theorem dX11_go_1 : decode cX11_go 1 = .ok (.aload_n 0, 1) := by decide +kernel
theorem dX11_go_2 : decode cX11_go 2 = .ok (.getfield 79, 3) := by decide +kernel
theorem dX11_go_5 : decode cX11_go 5 = .ok (.putfield 104, 3) := by decide +kernel
theorem dX11_go_8 : decode cX11_go 8 = .ok (.iconst 0, 1) := by decide +kernel
theorem dX11_go_9 : decode cX11_go 9 = .ok (.istore_n 1, 1) := by decide +kernel
theorem dX11_go_10 : decode cX11_go 10 = .ok (.iload_n 1, 1) := by decide +kernel
theorem dX11_go_11 : decode cX11_go 11 = .ok (.aload_n 0, 1) := by decide +kernel
theorem dX11_go_12 : decode cX11_go 12 = .ok (.getfield 104, 3) := by decide +kernel
theorem dX11_go_15 : decode cX11_go 15 = .ok (.if_icmp .ge 21, 3) := by decide +kernel
theorem dX11_go_18 : decode cX11_go 18 = .ok (.aload_n 0, 1) := by decide +kernel
theorem dX11_go_19 : decode cX11_go 19 = .ok (.getfield 36, 3) := by decide +kernel
theorem dX11_go_22 : decode cX11_go 22 = .ok (.iload_n 1, 1) := by decide +kernel
theorem dX11_go_23 : decode cX11_go 23 = .ok (.aload_n 0, 1) := by decide +kernel
theorem dX11_go_24 : decode cX11_go 24 = .ok (.getfield 33, 3) := by decide +kernel
theorem dX11_go_27 : decode cX11_go 27 = .ok (.iload_n 1, 1) := by decide +kernel
theorem dX11_go_28 : decode cX11_go 28 = .ok (.iaload, 1) := by decide +kernel
theorem dX11_go_29 : decode cX11_go 29 = .ok (.iastore, 1) := by decide +kernel
theorem dX11_go_30 : decode cX11_go 30 = .ok (.iinc 1 1, 3) := by decide +kernel
theorem dX11_go_33 : decode cX11_go 33 = .ok (.goto (-23), 3) := by decide +kernel
theorem dX11_go_36 : decode cX11_go 36 = .ok (.aload_n 0, 1) := by decide +kernel
theorem dX11_go_37 : decode cX11_go 37 = .ok (.iconst 0, 1) := by decide +kernel
theorem dX11_go_38 : decode cX11_go 38 = .ok (.putfield 79, 3) := by decide +kernel
theorem dX11_go_41 : decode cX11_go 41 = .ok (.aload_n 0, 1) := by decide +kernel
theorem dX11_go_42 : decode cX11_go 42 = .ok (.invokevirtual 148, 3) := by decide +kernel
theorem dX11_go_45 : decode cX11_go 45 = .ok (.aload_n 0, 1) := by decide +kernel
theorem dX11_go_46 : decode cX11_go 46 = .ok (.aload_n 0, 1) := by decide +kernel
theorem dX11_go_47 : decode cX11_go 47 = .ok (.getfield 139, 3) := by decide +kernel
theorem dX11_go_50 : decode cX11_go 50 = .ok (.putfield 151, 3) := by decide +kernel
theorem dX11_go_53 : decode cX11_go 53 = .ok (.iconst 0, 1) := by decide +kernel
theorem dX11_go_54 : decode cX11_go 54 = .ok (.istore_n 1, 1) := by decide +kernel
theorem dX11_go_55 : decode cX11_go 55 = .ok (.iload_n 1, 1) := by decide +kernel
theorem dX11_go_56 : decode cX11_go 56 = .ok (.aload_n 0, 1) := by decide +kernel
theorem dX11_go_57 : decode cX11_go 57 = .ok (.getfield 139, 3) := by decide +kernel
theorem dX11_go_60 : decode cX11_go 60 = .ok (.if_icmp .ge 21, 3) := by decide +kernel
theorem dX11_go_63 : decode cX11_go 63 = .ok (.aload_n 0, 1) := by decide +kernel
theorem dX11_go_64 : decode cX11_go 64 = .ok (.getfield 51, 3) := by decide +kernel
theorem dX11_go_67 : decode cX11_go 67 = .ok (.iload_n 1, 1) := by decide +kernel
theorem dX11_go_68 : decode cX11_go 68 = .ok (.aload_n 0, 1) := by decide +kernel
theorem dX11_go_69 : decode cX11_go 69 = .ok (.getfield 48, 3) := by decide +kernel
theorem dX11_go_72 : decode cX11_go 72 = .ok (.iload_n 1, 1) := by decide +kernel
theorem dX11_go_73 : decode cX11_go 73 = .ok (.iaload, 1) := by decide +kernel
theorem dX11_go_74 : decode cX11_go 74 = .ok (.iastore, 1) := by decide +kernel
theorem dX11_go_75 : decode cX11_go 75 = .ok (.iinc 1 1, 3) := by decide +kernel
theorem dX11_go_78 : decode cX11_go 78 = .ok (.goto (-23), 3) := by decide +kernel
theorem dX11_go_81 : decode cX11_go 81 = .ok (.aload_n 0, 1) := by decide +kernel
theorem dX11_go_82 : decode cX11_go 82 = .ok (.getfield 151, 3) := by decide +kernel
theorem dX11_go_85 : decode cX11_go 85 = .ok (.ireturn, 1) := by decide +kernel
theorem dX11_answer_0 : decode cX11_answer 0 = .ok (.iload_n 1, 1) := by decide +kernel
theorem dX11_answer_1 : decode cX11_answer 1 = .ok (.ifCond .lt 11, 3) := by decide +kernel
theorem dX11_answer_4 : decode cX11_answer 4 = .ok (.iload_n 1, 1) := by decide +kernel
theorem dX11_answer_5 : decode cX11_answer 5 = .ok (.aload_n 0, 1) := by decide +kernel
theorem dX11_answer_6 : decode cX11_answer 6 = .ok (.getfield 151, 3) := by decide +kernel
theorem dX11_answer_9 : decode cX11_answer 9 = .ok (.if_icmp .lt 7, 3) := by decide +kernel
theorem dX11_answer_12 : decode cX11_answer 12 = .ok (.iconst (-1), 1) := by decide +kernel
theorem dX11_answer_13 : decode cX11_answer 13 = .ok (.goto 9, 3) := by decide +kernel
theorem dX11_answer_16 : decode cX11_answer 16 = .ok (.aload_n 0, 1) := by decide +kernel
theorem dX11_answer_17 : decode cX11_answer 17 = .ok (.getfield 51, 3) := by decide +kernel
theorem dX11_answer_20 : decode cX11_answer 20 = .ok (.iload_n 1, 1) := by decide +kernel
theorem dX11_answer_21 : decode cX11_answer 21 = .ok (.iaload, 1) := by decide +kernel
theorem dX11_answer_22 : decode cX11_answer 22 = .ok (.ireturn, 1) := by decide +kernel
theorem dX11_state_0 : decode cX11_state 0 = .ok (.aload_n 0, 1) := by decide +kernel
theorem dX11_state_1 : decode cX11_state 1 = .ok (.iload_n 1, 1) := by decide +kernel
theorem dX11_state_2 : decode cX11_state 2 = .ok (.invokevirtual 75, 3) := by decide +kernel
theorem dX11_state_5 : decode cX11_state 5 = .ok (.ifCond .ne 6, 3) := by decide +kernel
theorem dX11_state_8 : decode cX11_state 8 = .ok (.bipush (-11), 2) := by decide +kernel
theorem dX11_state_10 : decode cX11_state 10 = .ok (.ireturn, 1) := by decide +kernel
theorem dX11_state_11 : decode cX11_state 11 = .ok (.aload_n 0, 1) := by decide +kernel
theorem dX11_state_12 : decode cX11_state 12 = .ok (.getfield 20, 3) := by decide +kernel
theorem dX11_state_15 : decode cX11_state 15 = .ok (.iload_n 1, 1) := by decide +kernel
theorem dX11_state_16 : decode cX11_state 16 = .ok (.iaload, 1) := by decide +kernel
theorem dX11_state_17 : decode cX11_state 17 = .ok (.iconst 2, 1) := by decide +kernel
theorem dX11_state_18 : decode cX11_state 18 = .ok (.if_icmp .eq 13, 3) := by decide +kernel
theorem dX11_state_21 : decode cX11_state 21 = .ok (.aload_n 0, 1) := by decide +kernel
theorem dX11_state_22 : decode cX11_state 22 = .ok (.getfield 20, 3) := by decide +kernel
theorem dX11_state_25 : decode cX11_state 25 = .ok (.iload_n 1, 1) := by decide +kernel
theorem dX11_state_26 : decode cX11_state 26 = .ok (.iaload, 1) := by decide +kernel
theorem dX11_state_27 : decode cX11_state 27 = .ok (.iconst 5, 1) := by decide +kernel
theorem dX11_state_28 : decode cX11_state 28 = .ok (.if_icmp .ne 24, 3) := by decide +kernel
theorem dX11_state_31 : decode cX11_state 31 = .ok (.aload_n 0, 1) := by decide +kernel
theorem dX11_state_32 : decode cX11_state 32 = .ok (.getfield 20, 3) := by decide +kernel
theorem dX11_state_35 : decode cX11_state 35 = .ok (.iload_n 1, 1) := by decide +kernel
theorem dX11_state_36 : decode cX11_state 36 = .ok (.iaload, 1) := by decide +kernel
theorem dX11_state_37 : decode cX11_state 37 = .ok (.bipush 10, 2) := by decide +kernel
theorem dX11_state_39 : decode cX11_state 39 = .ok (.aload_n 0, 1) := by decide +kernel
theorem dX11_state_40 : decode cX11_state 40 = .ok (.getfield 23, 3) := by decide +kernel
theorem dX11_state_43 : decode cX11_state 43 = .ok (.iload_n 1, 1) := by decide +kernel
theorem dX11_state_44 : decode cX11_state 44 = .ok (.iaload, 1) := by decide +kernel
theorem dX11_state_45 : decode cX11_state 45 = .ok (.iconst 1, 1) := by decide +kernel
theorem dX11_state_46 : decode cX11_state 46 = .ok (.isub, 1) := by decide +kernel
theorem dX11_state_47 : decode cX11_state 47 = .ok (.imul, 1) := by decide +kernel
theorem dX11_state_48 : decode cX11_state 48 = .ok (.iadd, 1) := by decide +kernel
theorem dX11_state_49 : decode cX11_state 49 = .ok (.goto 9, 3) := by decide +kernel
theorem dX11_state_52 : decode cX11_state 52 = .ok (.aload_n 0, 1) := by decide +kernel
theorem dX11_state_53 : decode cX11_state 53 = .ok (.getfield 20, 3) := by decide +kernel
theorem dX11_state_56 : decode cX11_state 56 = .ok (.iload_n 1, 1) := by decide +kernel
theorem dX11_state_57 : decode cX11_state 57 = .ok (.iaload, 1) := by decide +kernel
theorem dX11_state_58 : decode cX11_state 58 = .ok (.ireturn, 1) := by decide +kernel
theorem dX11_put_0 : decode cX11_put 0 = .ok (.iconst 0, 1) := by decide +kernel
theorem dX11_put_1 : decode cX11_put 1 = .ok (.istore_n 2, 1) := by decide +kernel
theorem dX11_put_2 : decode cX11_put 2 = .ok (.iload_n 2, 1) := by decide +kernel
theorem dX11_put_3 : decode cX11_put 3 = .ok (.bipush 8, 2) := by decide +kernel
theorem dX11_put_5 : decode cX11_put 5 = .ok (.if_icmp .ge 25, 3) := by decide +kernel
theorem dX11_put_8 : decode cX11_put 8 = .ok (.aload_n 0, 1) := by decide +kernel
theorem dX11_put_9 : decode cX11_put 9 = .ok (.getfield 36, 3) := by decide +kernel
theorem dX11_put_12 : decode cX11_put 12 = .ok (.aload_n 0, 1) := by decide +kernel
theorem dX11_put_13 : decode cX11_put 13 = .ok (.getfield 104, 3) := by decide +kernel
theorem dX11_put_16 : decode cX11_put 16 = .ok (.iload_n 2, 1) := by decide +kernel
theorem dX11_put_17 : decode cX11_put 17 = .ok (.iadd, 1) := by decide +kernel
theorem dX11_put_18 : decode cX11_put 18 = .ok (.iload_n 1, 1) := by decide +kernel
theorem dX11_put_19 : decode cX11_put 19 = .ok (.iload_n 2, 1) := by decide +kernel
theorem dX11_put_20 : decode cX11_put 20 = .ok (.ishr, 1) := by decide +kernel
theorem dX11_put_21 : decode cX11_put 21 = .ok (.iconst 1, 1) := by decide +kernel
theorem dX11_put_22 : decode cX11_put 22 = .ok (.iand, 1) := by decide +kernel
theorem dX11_put_23 : decode cX11_put 23 = .ok (.iastore, 1) := by decide +kernel
theorem dX11_put_24 : decode cX11_put 24 = .ok (.iinc 2 1, 3) := by decide +kernel
theorem dX11_put_27 : decode cX11_put 27 = .ok (.goto (-25), 3) := by decide +kernel
theorem dX11_put_30 : decode cX11_put 30 = .ok (.aload_n 0, 1) := by decide +kernel
theorem dX11_put_31 : decode cX11_put 31 = .ok (.getfield 36, 3) := by decide +kernel
theorem dX11_put_34 : decode cX11_put 34 = .ok (.aload_n 0, 1) := by decide +kernel
theorem dX11_put_35 : decode cX11_put 35 = .ok (.getfield 104, 3) := by decide +kernel
theorem dX11_put_38 : decode cX11_put 38 = .ok (.bipush 8, 2) := by decide +kernel
theorem dX11_put_40 : decode cX11_put 40 = .ok (.iadd, 1) := by decide +kernel
theorem dX11_put_41 : decode cX11_put 41 = .ok (.iload_n 1, 1) := by decide +kernel
theorem dX11_put_42 : decode cX11_put 42 = .ok (.invokestatic 82, 3) := by decide +kernel
theorem dX11_put_45 : decode cX11_put 45 = .ok (.iastore, 1) := by decide +kernel
theorem dX11_put_46 : decode cX11_put 46 = .ok (.aload_n 0, 1) := by decide +kernel
theorem dX11_put_47 : decode cX11_put 47 = .ok (.dup, 1) := by decide +kernel
theorem dX11_put_48 : decode cX11_put 48 = .ok (.getfield 104, 3) := by decide +kernel
theorem dX11_put_51 : decode cX11_put 51 = .ok (.bipush 9, 2) := by decide +kernel
theorem dX11_put_53 : decode cX11_put 53 = .ok (.iadd, 1) := by decide +kernel
theorem dX11_put_54 : decode cX11_put 54 = .ok (.putfield 104, 3) := by decide +kernel
theorem dX11_put_57 : decode cX11_put 57 = .ok (.return_, 1) := by decide +kernel
theorem dX11_putChecked_0 : decode cX11_putChecked 0 = .ok (.sipush 25443, 3) := by decide +kernel
theorem dX11_putChecked_3 : decode cX11_putChecked 3 = .ok (.istore_n 1, 1) := by decide +kernel
theorem dX11_putChecked_4 : decode cX11_putChecked 4 = .ok (.iconst 0, 1) := by decide +kernel
theorem dX11_putChecked_5 : decode cX11_putChecked 5 = .ok (.istore_n 2, 1) := by decide +kernel
theorem dX11_putChecked_6 : decode cX11_putChecked 6 = .ok (.iload_n 2, 1) := by decide +kernel
theorem dX11_putChecked_7 : decode cX11_putChecked 7 = .ok (.aload_n 0, 1) := by decide +kernel
theorem dX11_putChecked_8 : decode cX11_putChecked 8 = .ok (.getfield 104, 3) := by decide +kernel
theorem dX11_putChecked_11 : decode cX11_putChecked 11 = .ok (.if_icmp .ge 22, 3) := by decide +kernel
theorem dX11_putChecked_14 : decode cX11_putChecked 14 = .ok (.iload_n 1, 1) := by decide +kernel
theorem dX11_putChecked_15 : decode cX11_putChecked 15 = .ok (.aload_n 0, 1) := by decide +kernel
theorem dX11_putChecked_16 : decode cX11_putChecked 16 = .ok (.getfield 36, 3) := by decide +kernel
theorem dX11_putChecked_19 : decode cX11_putChecked 19 = .ok (.iload_n 2, 1) := by decide +kernel
theorem dX11_putChecked_20 : decode cX11_putChecked 20 = .ok (.invokestatic 90, 3) := by decide +kernel
theorem dX11_putChecked_23 : decode cX11_putChecked 23 = .ok (.invokestatic 94, 3) := by decide +kernel
theorem dX11_putChecked_26 : decode cX11_putChecked 26 = .ok (.istore_n 1, 1) := by decide +kernel
theorem dX11_putChecked_27 : decode cX11_putChecked 27 = .ok (.iinc 2 9, 3) := by decide +kernel
theorem dX11_putChecked_30 : decode cX11_putChecked 30 = .ok (.goto (-24), 3) := by decide +kernel
theorem dX11_putChecked_33 : decode cX11_putChecked 33 = .ok (.aload_n 0, 1) := by decide +kernel
theorem dX11_putChecked_34 : decode cX11_putChecked 34 = .ok (.iload_n 1, 1) := by decide +kernel
theorem dX11_putChecked_35 : decode cX11_putChecked 35 = .ok (.sipush 256, 3) := by decide +kernel
theorem dX11_putChecked_38 : decode cX11_putChecked 38 = .ok (.irem, 1) := by decide +kernel
theorem dX11_putChecked_39 : decode cX11_putChecked 39 = .ok (.invokevirtual 154, 3) := by decide +kernel
theorem dX11_putChecked_42 : decode cX11_putChecked 42 = .ok (.aload_n 0, 1) := by decide +kernel
theorem dX11_putChecked_43 : decode cX11_putChecked 43 = .ok (.iload_n 1, 1) := by decide +kernel
theorem dX11_putChecked_44 : decode cX11_putChecked 44 = .ok (.sipush 256, 3) := by decide +kernel
theorem dX11_putChecked_47 : decode cX11_putChecked 47 = .ok (.idiv, 1) := by decide +kernel
theorem dX11_putChecked_48 : decode cX11_putChecked 48 = .ok (.invokevirtual 154, 3) := by decide +kernel
theorem dX11_putChecked_51 : decode cX11_putChecked 51 = .ok (.return_, 1) := by decide +kernel
theorem dX11_sendShort_0 : decode cX11_sendShort 0 = .ok (.aload_n 0, 1) := by decide +kernel
theorem dX11_sendShort_1 : decode cX11_sendShort 1 = .ok (.bipush 7, 2) := by decide +kernel
theorem dX11_sendShort_3 : decode cX11_sendShort 3 = .ok (.putfield 104, 3) := by decide +kernel
theorem dX11_sendShort_6 : decode cX11_sendShort 6 = .ok (.iconst 0, 1) := by decide +kernel
theorem dX11_sendShort_7 : decode cX11_sendShort 7 = .ok (.istore_n 2, 1) := by decide +kernel
theorem dX11_sendShort_8 : decode cX11_sendShort 8 = .ok (.iload_n 2, 1) := by decide +kernel
theorem dX11_sendShort_9 : decode cX11_sendShort 9 = .ok (.bipush 7, 2) := by decide +kernel
theorem dX11_sendShort_11 : decode cX11_sendShort 11 = .ok (.if_icmp .ge 20, 3) := by decide +kernel
theorem dX11_sendShort_14 : decode cX11_sendShort 14 = .ok (.aload_n 0, 1) := by decide +kernel
theorem dX11_sendShort_15 : decode cX11_sendShort 15 = .ok (.getfield 36, 3) := by decide +kernel
theorem dX11_sendShort_18 : decode cX11_sendShort 18 = .ok (.iload_n 2, 1) := by decide +kernel
theorem dX11_sendShort_19 : decode cX11_sendShort 19 = .ok (.iload_n 1, 1) := by decide +kernel
theorem dX11_sendShort_20 : decode cX11_sendShort 20 = .ok (.iload_n 2, 1) := by decide +kernel
theorem dX11_sendShort_21 : decode cX11_sendShort 21 = .ok (.ishr, 1) := by decide +kernel
theorem dX11_sendShort_22 : decode cX11_sendShort 22 = .ok (.iconst 1, 1) := by decide +kernel
theorem dX11_sendShort_23 : decode cX11_sendShort 23 = .ok (.iand, 1) := by decide +kernel
theorem dX11_sendShort_24 : decode cX11_sendShort 24 = .ok (.iastore, 1) := by decide +kernel
theorem dX11_sendShort_25 : decode cX11_sendShort 25 = .ok (.iinc 2 1, 3) := by decide +kernel
theorem dX11_sendShort_28 : decode cX11_sendShort 28 = .ok (.goto (-20), 3) := by decide +kernel
theorem dX11_sendShort_31 : decode cX11_sendShort 31 = .ok (.aload_n 0, 1) := by decide +kernel
theorem dX11_sendShort_32 : decode cX11_sendShort 32 = .ok (.invokevirtual 148, 3) := by decide +kernel
theorem dX11_sendShort_35 : decode cX11_sendShort 35 = .ok (.return_, 1) := by decide +kernel
theorem dX11_knownByte_0 : decode cX11_knownByte 0 = .ok (.iconst 0, 1) := by decide +kernel
theorem dX11_knownByte_1 : decode cX11_knownByte 1 = .ok (.istore_n 2, 1) := by decide +kernel
theorem dX11_knownByte_2 : decode cX11_knownByte 2 = .ok (.iconst 0, 1) := by decide +kernel
theorem dX11_knownByte_3 : decode cX11_knownByte 3 = .ok (.istore_n 3, 1) := by decide +kernel
theorem dX11_knownByte_4 : decode cX11_knownByte 4 = .ok (.iload_n 3, 1) := by decide +kernel
theorem dX11_knownByte_5 : decode cX11_knownByte 5 = .ok (.bipush 8, 2) := by decide +kernel
theorem dX11_knownByte_7 : decode cX11_knownByte 7 = .ok (.if_icmp .ge 25, 3) := by decide +kernel
theorem dX11_knownByte_10 : decode cX11_knownByte 10 = .ok (.iload_n 2, 1) := by decide +kernel
theorem dX11_knownByte_11 : decode cX11_knownByte 11 = .ok (.aload_n 0, 1) := by decide +kernel
theorem dX11_knownByte_12 : decode cX11_knownByte 12 = .ok (.getfield 60, 3) := by decide +kernel
theorem dX11_knownByte_15 : decode cX11_knownByte 15 = .ok (.bipush 8, 2) := by decide +kernel
theorem dX11_knownByte_17 : decode cX11_knownByte 17 = .ok (.iload_n 1, 1) := by decide +kernel
theorem dX11_knownByte_18 : decode cX11_knownByte 18 = .ok (.imul, 1) := by decide +kernel
theorem dX11_knownByte_19 : decode cX11_knownByte 19 = .ok (.iload_n 3, 1) := by decide +kernel
theorem dX11_knownByte_20 : decode cX11_knownByte 20 = .ok (.iadd, 1) := by decide +kernel
theorem dX11_knownByte_21 : decode cX11_knownByte 21 = .ok (.iaload, 1) := by decide +kernel
theorem dX11_knownByte_22 : decode cX11_knownByte 22 = .ok (.iload_n 3, 1) := by decide +kernel
theorem dX11_knownByte_23 : decode cX11_knownByte 23 = .ok (.ishl, 1) := by decide +kernel
theorem dX11_knownByte_24 : decode cX11_knownByte 24 = .ok (.ior, 1) := by decide +kernel
theorem dX11_knownByte_25 : decode cX11_knownByte 25 = .ok (.istore_n 2, 1) := by decide +kernel
theorem dX11_knownByte_26 : decode cX11_knownByte 26 = .ok (.iinc 3 1, 3) := by decide +kernel
theorem dX11_knownByte_29 : decode cX11_knownByte 29 = .ok (.goto (-25), 3) := by decide +kernel
theorem dX11_knownByte_32 : decode cX11_knownByte 32 = .ok (.iload_n 2, 1) := by decide +kernel
theorem dX11_knownByte_33 : decode cX11_knownByte 33 = .ok (.ireturn, 1) := by decide +kernel
theorem dX11_sendSearch_0 : decode cX11_sendSearch 0 = .ok (.aload_n 0, 1) := by decide +kernel
theorem dX11_sendSearch_1 : decode cX11_sendSearch 1 = .ok (.iconst 0, 1) := by decide +kernel
theorem dX11_sendSearch_2 : decode cX11_sendSearch 2 = .ok (.putfield 104, 3) := by decide +kernel
theorem dX11_sendSearch_5 : decode cX11_sendSearch 5 = .ok (.aload_n 0, 1) := by decide +kernel
theorem dX11_sendSearch_6 : decode cX11_sendSearch 6 = .ok (.sipush 145, 3) := by decide +kernel
theorem dX11_sendSearch_9 : decode cX11_sendSearch 9 = .ok (.iconst 2, 1) := by decide +kernel
theorem dX11_sendSearch_10 : decode cX11_sendSearch 10 = .ok (.iload_n 1, 1) := by decide +kernel
theorem dX11_sendSearch_11 : decode cX11_sendSearch 11 = .ok (.imul, 1) := by decide +kernel
theorem dX11_sendSearch_12 : decode cX11_sendSearch 12 = .ok (.iadd, 1) := by decide +kernel
theorem dX11_sendSearch_13 : decode cX11_sendSearch 13 = .ok (.invokevirtual 154, 3) := by decide +kernel
theorem dX11_sendSearch_16 : decode cX11_sendSearch 16 = .ok (.aload_n 0, 1) := by decide +kernel
theorem dX11_sendSearch_17 : decode cX11_sendSearch 17 = .ok (.bipush 16, 2) := by decide +kernel
theorem dX11_sendSearch_19 : decode cX11_sendSearch 19 = .ok (.iconst 2, 1) := by decide +kernel
theorem dX11_sendSearch_20 : decode cX11_sendSearch 20 = .ok (.aload_n 0, 1) := by decide +kernel
theorem dX11_sendSearch_21 : decode cX11_sendSearch 21 = .ok (.getfield 157, 3) := by decide +kernel
theorem dX11_sendSearch_24 : decode cX11_sendSearch 24 = .ok (.bipush 8, 2) := by decide +kernel
theorem dX11_sendSearch_26 : decode cX11_sendSearch 26 = .ok (.idiv, 1) := by decide +kernel
theorem dX11_sendSearch_27 : decode cX11_sendSearch 27 = .ok (.iadd, 1) := by decide +kernel
theorem dX11_sendSearch_28 : decode cX11_sendSearch 28 = .ok (.imul, 1) := by decide +kernel
theorem dX11_sendSearch_29 : decode cX11_sendSearch 29 = .ok (.aload_n 0, 1) := by decide +kernel
theorem dX11_sendSearch_30 : decode cX11_sendSearch 30 = .ok (.getfield 157, 3) := by decide +kernel
theorem dX11_sendSearch_33 : decode cX11_sendSearch 33 = .ok (.bipush 8, 2) := by decide +kernel
theorem dX11_sendSearch_35 : decode cX11_sendSearch 35 = .ok (.irem, 1) := by decide +kernel
theorem dX11_sendSearch_36 : decode cX11_sendSearch 36 = .ok (.iadd, 1) := by decide +kernel
theorem dX11_sendSearch_37 : decode cX11_sendSearch 37 = .ok (.invokevirtual 154, 3) := by decide +kernel
theorem dX11_sendSearch_40 : decode cX11_sendSearch 40 = .ok (.iconst 0, 1) := by decide +kernel
theorem dX11_sendSearch_41 : decode cX11_sendSearch 41 = .ok (.istore_n 2, 1) := by decide +kernel
theorem dX11_sendSearch_42 : decode cX11_sendSearch 42 = .ok (.iload_n 2, 1) := by decide +kernel
theorem dX11_sendSearch_43 : decode cX11_sendSearch 43 = .ok (.aload_n 0, 1) := by decide +kernel
theorem dX11_sendSearch_44 : decode cX11_sendSearch 44 = .ok (.getfield 157, 3) := by decide +kernel
theorem dX11_sendSearch_47 : decode cX11_sendSearch 47 = .ok (.bipush 8, 2) := by decide +kernel
theorem dX11_sendSearch_49 : decode cX11_sendSearch 49 = .ok (.idiv, 1) := by decide +kernel
theorem dX11_sendSearch_50 : decode cX11_sendSearch 50 = .ok (.if_icmp .ge 18, 3) := by decide +kernel
theorem dX11_sendSearch_53 : decode cX11_sendSearch 53 = .ok (.aload_n 0, 1) := by decide +kernel
theorem dX11_sendSearch_54 : decode cX11_sendSearch 54 = .ok (.aload_n 0, 1) := by decide +kernel
theorem dX11_sendSearch_55 : decode cX11_sendSearch 55 = .ok (.iload_n 2, 1) := by decide +kernel
theorem dX11_sendSearch_56 : decode cX11_sendSearch 56 = .ok (.invokevirtual 160, 3) := by decide +kernel
theorem dX11_sendSearch_59 : decode cX11_sendSearch 59 = .ok (.invokevirtual 154, 3) := by decide +kernel
theorem dX11_sendSearch_62 : decode cX11_sendSearch 62 = .ok (.iinc 2 1, 3) := by decide +kernel
theorem dX11_sendSearch_65 : decode cX11_sendSearch 65 = .ok (.goto (-23), 3) := by decide +kernel
theorem dX11_sendSearch_68 : decode cX11_sendSearch 68 = .ok (.aload_n 0, 1) := by decide +kernel
theorem dX11_sendSearch_69 : decode cX11_sendSearch 69 = .ok (.getfield 157, 3) := by decide +kernel
theorem dX11_sendSearch_72 : decode cX11_sendSearch 72 = .ok (.bipush 8, 2) := by decide +kernel
theorem dX11_sendSearch_74 : decode cX11_sendSearch 74 = .ok (.idiv, 1) := by decide +kernel
theorem dX11_sendSearch_75 : decode cX11_sendSearch 75 = .ok (.bipush 8, 2) := by decide +kernel
theorem dX11_sendSearch_77 : decode cX11_sendSearch 77 = .ok (.imul, 1) := by decide +kernel
theorem dX11_sendSearch_78 : decode cX11_sendSearch 78 = .ok (.istore_n 2, 1) := by decide +kernel
theorem dX11_sendSearch_79 : decode cX11_sendSearch 79 = .ok (.iload_n 2, 1) := by decide +kernel
theorem dX11_sendSearch_80 : decode cX11_sendSearch 80 = .ok (.aload_n 0, 1) := by decide +kernel
theorem dX11_sendSearch_81 : decode cX11_sendSearch 81 = .ok (.getfield 157, 3) := by decide +kernel
theorem dX11_sendSearch_84 : decode cX11_sendSearch 84 = .ok (.if_icmp .ge 34, 3) := by decide +kernel
theorem dX11_sendSearch_87 : decode cX11_sendSearch 87 = .ok (.aload_n 0, 1) := by decide +kernel
theorem dX11_sendSearch_88 : decode cX11_sendSearch 88 = .ok (.getfield 36, 3) := by decide +kernel
theorem dX11_sendSearch_91 : decode cX11_sendSearch 91 = .ok (.aload_n 0, 1) := by decide +kernel
theorem dX11_sendSearch_92 : decode cX11_sendSearch 92 = .ok (.getfield 104, 3) := by decide +kernel
theorem dX11_sendSearch_95 : decode cX11_sendSearch 95 = .ok (.aload_n 0, 1) := by decide +kernel
theorem dX11_sendSearch_96 : decode cX11_sendSearch 96 = .ok (.getfield 60, 3) := by decide +kernel
theorem dX11_sendSearch_99 : decode cX11_sendSearch 99 = .ok (.iload_n 2, 1) := by decide +kernel
theorem dX11_sendSearch_100 : decode cX11_sendSearch 100 = .ok (.iaload, 1) := by decide +kernel
theorem dX11_sendSearch_101 : decode cX11_sendSearch 101 = .ok (.iastore, 1) := by decide +kernel
theorem dX11_sendSearch_102 : decode cX11_sendSearch 102 = .ok (.aload_n 0, 1) := by decide +kernel
theorem dX11_sendSearch_103 : decode cX11_sendSearch 103 = .ok (.dup, 1) := by decide +kernel
theorem dX11_sendSearch_104 : decode cX11_sendSearch 104 = .ok (.getfield 104, 3) := by decide +kernel
theorem dX11_sendSearch_107 : decode cX11_sendSearch 107 = .ok (.iconst 1, 1) := by decide +kernel
theorem dX11_sendSearch_108 : decode cX11_sendSearch 108 = .ok (.iadd, 1) := by decide +kernel
theorem dX11_sendSearch_109 : decode cX11_sendSearch 109 = .ok (.putfield 104, 3) := by decide +kernel
theorem dX11_sendSearch_112 : decode cX11_sendSearch 112 = .ok (.iinc 2 1, 3) := by decide +kernel
theorem dX11_sendSearch_115 : decode cX11_sendSearch 115 = .ok (.goto (-36), 3) := by decide +kernel
theorem dX11_sendSearch_118 : decode cX11_sendSearch 118 = .ok (.aload_n 0, 1) := by decide +kernel
theorem dX11_sendSearch_119 : decode cX11_sendSearch 119 = .ok (.invokevirtual 148, 3) := by decide +kernel
theorem dX11_sendSearch_122 : decode cX11_sendSearch 122 = .ok (.return_, 1) := by decide +kernel
theorem dX11_knows_0 : decode cX11_knows 0 = .ok (.aload_n 0, 1) := by decide +kernel
theorem dX11_knows_1 : decode cX11_knows 1 = .ok (.iconst 0, 1) := by decide +kernel
theorem dX11_knows_2 : decode cX11_knows 2 = .ok (.putfield 157, 3) := by decide +kernel
theorem dX11_knows_5 : decode cX11_knows 5 = .ok (.aload_n 0, 1) := by decide +kernel
theorem dX11_knows_6 : decode cX11_knows 6 = .ok (.getfield 157, 3) := by decide +kernel
theorem dX11_knows_9 : decode cX11_knows 9 = .ok (.bipush 40, 2) := by decide +kernel
theorem dX11_knows_11 : decode cX11_knows 11 = .ok (.if_icmp .ge 105, 3) := by decide +kernel
theorem dX11_knows_14 : decode cX11_knows 14 = .ok (.aload_n 0, 1) := by decide +kernel
theorem dX11_knows_15 : decode cX11_knows 15 = .ok (.iload_n 1, 1) := by decide +kernel
theorem dX11_knows_16 : decode cX11_knows 16 = .ok (.invokevirtual 163, 3) := by decide +kernel
theorem dX11_knows_19 : decode cX11_knows 19 = .ok (.aload_n 0, 1) := by decide +kernel
theorem dX11_knows_20 : decode cX11_knows 20 = .ok (.getfield 139, 3) := by decide +kernel
theorem dX11_knows_23 : decode cX11_knows 23 = .ok (.ifCond .ne 5, 3) := by decide +kernel
theorem dX11_knows_26 : decode cX11_knows 26 = .ok (.iconst 0, 1) := by decide +kernel
theorem dX11_knows_27 : decode cX11_knows 27 = .ok (.ireturn, 1) := by decide +kernel
theorem dX11_knows_28 : decode cX11_knows 28 = .ok (.iconst 1, 1) := by decide +kernel
theorem dX11_knows_29 : decode cX11_knows 29 = .ok (.istore_n 2, 1) := by decide +kernel
theorem dX11_knows_30 : decode cX11_knows 30 = .ok (.iconst 0, 1) := by decide +kernel
theorem dX11_knows_31 : decode cX11_knows 31 = .ok (.istore_n 3, 1) := by decide +kernel
theorem dX11_knows_32 : decode cX11_knows 32 = .ok (.aload_n 0, 1) := by decide +kernel
theorem dX11_knows_33 : decode cX11_knows 33 = .ok (.getfield 157, 3) := by decide +kernel
theorem dX11_knows_36 : decode cX11_knows 36 = .ok (.bipush 40, 2) := by decide +kernel
theorem dX11_knows_38 : decode cX11_knows 38 = .ok (.if_icmp .ge 75, 3) := by decide +kernel
theorem dX11_knows_41 : decode cX11_knows 41 = .ok (.iload_n 2, 1) := by decide +kernel
theorem dX11_knows_42 : decode cX11_knows 42 = .ok (.ifCond .eq 71, 3) := by decide +kernel
theorem dX11_knows_45 : decode cX11_knows 45 = .ok (.aload_n 0, 1) := by decide +kernel
theorem dX11_knows_46 : decode cX11_knows 46 = .ok (.getfield 48, 3) := by decide +kernel
theorem dX11_knows_49 : decode cX11_knows 49 = .ok (.iload_n 3, 1) := by decide +kernel
theorem dX11_knows_50 : decode cX11_knows 50 = .ok (.iaload, 1) := by decide +kernel
theorem dX11_knows_51 : decode cX11_knows 51 = .ok (.iconst 2, 1) := by decide +kernel
theorem dX11_knows_52 : decode cX11_knows 52 = .ok (.if_icmp .ge 7, 3) := by decide +kernel
theorem dX11_knows_55 : decode cX11_knows 55 = .ok (.iconst 1, 1) := by decide +kernel
theorem dX11_knows_56 : decode cX11_knows 56 = .ok (.goto 4, 3) := by decide +kernel
theorem dX11_knows_59 : decode cX11_knows 59 = .ok (.iconst 0, 1) := by decide +kernel
theorem dX11_knows_60 : decode cX11_knows 60 = .ok (.istore_n 2, 1) := by decide +kernel
theorem dX11_knows_61 : decode cX11_knows 61 = .ok (.aload_n 0, 1) := by decide +kernel
theorem dX11_knows_62 : decode cX11_knows 62 = .ok (.getfield 60, 3) := by decide +kernel
theorem dX11_knows_65 : decode cX11_knows 65 = .ok (.aload_n 0, 1) := by decide +kernel
theorem dX11_knows_66 : decode cX11_knows 66 = .ok (.getfield 157, 3) := by decide +kernel
theorem dX11_knows_69 : decode cX11_knows 69 = .ok (.iload_n 2, 1) := by decide +kernel
theorem dX11_knows_70 : decode cX11_knows 70 = .ok (.ifCond .eq 12, 3) := by decide +kernel
theorem dX11_knows_73 : decode cX11_knows 73 = .ok (.aload_n 0, 1) := by decide +kernel
theorem dX11_knows_74 : decode cX11_knows 74 = .ok (.getfield 48, 3) := by decide +kernel
theorem dX11_knows_77 : decode cX11_knows 77 = .ok (.iload_n 3, 1) := by decide +kernel
theorem dX11_knows_78 : decode cX11_knows 78 = .ok (.iaload, 1) := by decide +kernel
theorem dX11_knows_79 : decode cX11_knows 79 = .ok (.goto 4, 3) := by decide +kernel
theorem dX11_knows_82 : decode cX11_knows 82 = .ok (.iconst 1, 1) := by decide +kernel
theorem dX11_knows_83 : decode cX11_knows 83 = .ok (.iastore, 1) := by decide +kernel
theorem dX11_knows_84 : decode cX11_knows 84 = .ok (.aload_n 0, 1) := by decide +kernel
theorem dX11_knows_85 : decode cX11_knows 85 = .ok (.dup, 1) := by decide +kernel
theorem dX11_knows_86 : decode cX11_knows 86 = .ok (.getfield 157, 3) := by decide +kernel
theorem dX11_knows_89 : decode cX11_knows 89 = .ok (.iconst 1, 1) := by decide +kernel
theorem dX11_knows_90 : decode cX11_knows 90 = .ok (.iadd, 1) := by decide +kernel
theorem dX11_knows_91 : decode cX11_knows 91 = .ok (.putfield 157, 3) := by decide +kernel
theorem dX11_knows_94 : decode cX11_knows 94 = .ok (.aload_n 0, 1) := by decide +kernel
theorem dX11_knows_95 : decode cX11_knows 95 = .ok (.getfield 157, 3) := by decide +kernel
theorem dX11_knows_98 : decode cX11_knows 98 = .ok (.bipush 8, 2) := by decide +kernel
theorem dX11_knows_100 : decode cX11_knows 100 = .ok (.irem, 1) := by decide +kernel
theorem dX11_knows_101 : decode cX11_knows 101 = .ok (.ifCond .ne 6, 3) := by decide +kernel
theorem dX11_knows_104 : decode cX11_knows 104 = .ok (.iinc 3 1, 3) := by decide +kernel
theorem dX11_knows_107 : decode cX11_knows 107 = .ok (.iinc 3 1, 3) := by decide +kernel
theorem dX11_knows_110 : decode cX11_knows 110 = .ok (.goto (-78), 3) := by decide +kernel
theorem dX11_knows_113 : decode cX11_knows 113 = .ok (.goto (-108), 3) := by decide +kernel
theorem dX11_knows_116 : decode cX11_knows 116 = .ok (.iconst 1, 1) := by decide +kernel
theorem dX11_knows_117 : decode cX11_knows 117 = .ok (.ireturn, 1) := by decide +kernel
theorem dX11_chooses_0 : decode cX11_chooses 0 = .ok (.aload_n 0, 1) := by decide +kernel
theorem dX11_chooses_1 : decode cX11_chooses 1 = .ok (.iconst 0, 1) := by decide +kernel
theorem dX11_chooses_2 : decode cX11_chooses 2 = .ok (.putfield 104, 3) := by decide +kernel
theorem dX11_chooses_5 : decode cX11_chooses 5 = .ok (.aload_n 0, 1) := by decide +kernel
theorem dX11_chooses_6 : decode cX11_chooses 6 = .ok (.sipush 145, 3) := by decide +kernel
theorem dX11_chooses_9 : decode cX11_chooses 9 = .ok (.iconst 2, 1) := by decide +kernel
theorem dX11_chooses_10 : decode cX11_chooses 10 = .ok (.iload_n 1, 1) := by decide +kernel
theorem dX11_chooses_11 : decode cX11_chooses 11 = .ok (.imul, 1) := by decide +kernel
theorem dX11_chooses_12 : decode cX11_chooses 12 = .ok (.iadd, 1) := by decide +kernel
theorem dX11_chooses_13 : decode cX11_chooses 13 = .ok (.invokevirtual 154, 3) := by decide +kernel
theorem dX11_chooses_16 : decode cX11_chooses 16 = .ok (.aload_n 0, 1) := by decide +kernel
theorem dX11_chooses_17 : decode cX11_chooses 17 = .ok (.bipush 112, 2) := by decide +kernel
theorem dX11_chooses_19 : decode cX11_chooses 19 = .ok (.invokevirtual 154, 3) := by decide +kernel
theorem dX11_chooses_22 : decode cX11_chooses 22 = .ok (.iconst 0, 1) := by decide +kernel
theorem dX11_chooses_23 : decode cX11_chooses 23 = .ok (.istore_n 2, 1) := by decide +kernel
theorem dX11_chooses_24 : decode cX11_chooses 24 = .ok (.iload_n 2, 1) := by decide +kernel
theorem dX11_chooses_25 : decode cX11_chooses 25 = .ok (.iconst 5, 1) := by decide +kernel
theorem dX11_chooses_26 : decode cX11_chooses 26 = .ok (.if_icmp .ge 18, 3) := by decide +kernel
theorem dX11_chooses_29 : decode cX11_chooses 29 = .ok (.aload_n 0, 1) := by decide +kernel
theorem dX11_chooses_30 : decode cX11_chooses 30 = .ok (.aload_n 0, 1) := by decide +kernel
theorem dX11_chooses_31 : decode cX11_chooses 31 = .ok (.iload_n 2, 1) := by decide +kernel
theorem dX11_chooses_32 : decode cX11_chooses 32 = .ok (.invokevirtual 160, 3) := by decide +kernel
theorem dX11_chooses_35 : decode cX11_chooses 35 = .ok (.invokevirtual 154, 3) := by decide +kernel
theorem dX11_chooses_38 : decode cX11_chooses 38 = .ok (.iinc 2 1, 3) := by decide +kernel
theorem dX11_chooses_41 : decode cX11_chooses 41 = .ok (.goto (-17), 3) := by decide +kernel
theorem dX11_chooses_44 : decode cX11_chooses 44 = .ok (.aload_n 0, 1) := by decide +kernel
theorem dX11_chooses_45 : decode cX11_chooses 45 = .ok (.invokevirtual 166, 3) := by decide +kernel
theorem dX11_chooses_48 : decode cX11_chooses 48 = .ok (.aload_n 0, 1) := by decide +kernel
theorem dX11_chooses_49 : decode cX11_chooses 49 = .ok (.invokevirtual 148, 3) := by decide +kernel
theorem dX11_chooses_52 : decode cX11_chooses 52 = .ok (.aload_n 0, 1) := by decide +kernel
theorem dX11_chooses_53 : decode cX11_chooses 53 = .ok (.getfield 139, 3) := by decide +kernel
theorem dX11_chooses_56 : decode cX11_chooses 56 = .ok (.ifCond .ne 5, 3) := by decide +kernel
theorem dX11_chooses_59 : decode cX11_chooses 59 = .ok (.iconst (-1), 1) := by decide +kernel
theorem dX11_chooses_60 : decode cX11_chooses 60 = .ok (.ireturn, 1) := by decide +kernel
theorem dX11_chooses_61 : decode cX11_chooses 61 = .ok (.iconst 0, 1) := by decide +kernel
theorem dX11_chooses_62 : decode cX11_chooses 62 = .ok (.istore_n 2, 1) := by decide +kernel
theorem dX11_chooses_63 : decode cX11_chooses 63 = .ok (.iconst 0, 1) := by decide +kernel
theorem dX11_chooses_64 : decode cX11_chooses 64 = .ok (.istore_n 3, 1) := by decide +kernel
theorem dX11_chooses_65 : decode cX11_chooses 65 = .ok (.iload_n 3, 1) := by decide +kernel
theorem dX11_chooses_66 : decode cX11_chooses 66 = .ok (.bipush 8, 2) := by decide +kernel
theorem dX11_chooses_68 : decode cX11_chooses 68 = .ok (.if_icmp .ge 22, 3) := by decide +kernel
theorem dX11_chooses_71 : decode cX11_chooses 71 = .ok (.iload_n 2, 1) := by decide +kernel
theorem dX11_chooses_72 : decode cX11_chooses 72 = .ok (.aload_n 0, 1) := by decide +kernel
theorem dX11_chooses_73 : decode cX11_chooses 73 = .ok (.getfield 48, 3) := by decide +kernel
theorem dX11_chooses_76 : decode cX11_chooses 76 = .ok (.iload_n 3, 1) := by decide +kernel
theorem dX11_chooses_77 : decode cX11_chooses 77 = .ok (.iaload, 1) := by decide +kernel
theorem dX11_chooses_78 : decode cX11_chooses 78 = .ok (.iconst 1, 1) := by decide +kernel
theorem dX11_chooses_79 : decode cX11_chooses 79 = .ok (.iand, 1) := by decide +kernel
theorem dX11_chooses_80 : decode cX11_chooses 80 = .ok (.iload_n 3, 1) := by decide +kernel
theorem dX11_chooses_81 : decode cX11_chooses 81 = .ok (.ishl, 1) := by decide +kernel
theorem dX11_chooses_82 : decode cX11_chooses 82 = .ok (.ior, 1) := by decide +kernel
theorem dX11_chooses_83 : decode cX11_chooses 83 = .ok (.istore_n 2, 1) := by decide +kernel
theorem dX11_chooses_84 : decode cX11_chooses 84 = .ok (.iinc 3 1, 3) := by decide +kernel
theorem dX11_chooses_87 : decode cX11_chooses 87 = .ok (.goto (-22), 3) := by decide +kernel
theorem dX11_chooses_90 : decode cX11_chooses 90 = .ok (.iload_n 2, 1) := by decide +kernel
theorem dX11_chooses_91 : decode cX11_chooses 91 = .ok (.ireturn, 1) := by decide +kernel
theorem dX11_round_0 : decode cX11_round 0 = .ok (.aload_n 0, 1) := by decide +kernel
theorem dX11_round_1 : decode cX11_round 1 = .ok (.iconst 0, 1) := by decide +kernel
theorem dX11_round_2 : decode cX11_round 2 = .ok (.putfield 169, 3) := by decide +kernel
theorem dX11_round_5 : decode cX11_round 5 = .ok (.iconst 1, 1) := by decide +kernel
theorem dX11_round_6 : decode cX11_round 6 = .ok (.istore_n 1, 1) := by decide +kernel
theorem dX11_round_7 : decode cX11_round 7 = .ok (.iload_n 1, 1) := by decide +kernel
theorem dX11_round_8 : decode cX11_round 8 = .ok (.ifCond .eq 194, 3) := by decide +kernel
theorem dX11_round_11 : decode cX11_round 11 = .ok (.aload_n 0, 1) := by decide +kernel
theorem dX11_round_12 : decode cX11_round 12 = .ok (.getfield 169, 3) := by decide +kernel
theorem dX11_round_15 : decode cX11_round 15 = .ok (.bipush 40, 2) := by decide +kernel
theorem dX11_round_17 : decode cX11_round 17 = .ok (.if_icmp .ge 185, 3) := by decide +kernel
theorem dX11_round_20 : decode cX11_round 20 = .ok (.aload_n 0, 1) := by decide +kernel
theorem dX11_round_21 : decode cX11_round 21 = .ok (.bipush 38, 2) := by decide +kernel
theorem dX11_round_23 : decode cX11_round 23 = .ok (.invokevirtual 172, 3) := by decide +kernel
theorem dX11_round_26 : decode cX11_round 26 = .ok (.aload_n 0, 1) := by decide +kernel
theorem dX11_round_27 : decode cX11_round 27 = .ok (.getfield 139, 3) := by decide +kernel
theorem dX11_round_30 : decode cX11_round 30 = .ok (.ifCond .le 7, 3) := by decide +kernel
theorem dX11_round_33 : decode cX11_round 33 = .ok (.iconst 1, 1) := by decide +kernel
theorem dX11_round_34 : decode cX11_round 34 = .ok (.goto 4, 3) := by decide +kernel
theorem dX11_round_37 : decode cX11_round 37 = .ok (.iconst 0, 1) := by decide +kernel
theorem dX11_round_38 : decode cX11_round 38 = .ok (.istore_n 1, 1) := by decide +kernel
theorem dX11_round_39 : decode cX11_round 39 = .ok (.iload_n 1, 1) := by decide +kernel
theorem dX11_round_40 : decode cX11_round 40 = .ok (.istore_n 2, 1) := by decide +kernel
theorem dX11_round_41 : decode cX11_round 41 = .ok (.iconst 0, 1) := by decide +kernel
theorem dX11_round_42 : decode cX11_round 42 = .ok (.istore_n 3, 1) := by decide +kernel
theorem dX11_round_43 : decode cX11_round 43 = .ok (.iconst 1, 1) := by decide +kernel
theorem dX11_round_44 : decode cX11_round 44 = .ok (.istore 4, 2) := by decide +kernel
theorem dX11_round_46 : decode cX11_round 46 = .ok (.iload_n 2, 1) := by decide +kernel
theorem dX11_round_47 : decode cX11_round 47 = .ok (.ifCond .eq 99, 3) := by decide +kernel
theorem dX11_round_50 : decode cX11_round 50 = .ok (.aload_n 0, 1) := by decide +kernel
theorem dX11_round_51 : decode cX11_round 51 = .ok (.iload 4, 2) := by decide +kernel
theorem dX11_round_53 : decode cX11_round 53 = .ok (.invokevirtual 175, 3) := by decide +kernel
theorem dX11_round_56 : decode cX11_round 56 = .ok (.ifCond .ne 8, 3) := by decide +kernel
theorem dX11_round_59 : decode cX11_round 59 = .ok (.aload_n 0, 1) := by decide +kernel
theorem dX11_round_60 : decode cX11_round 60 = .ok (.getfield 169, 3) := by decide +kernel
theorem dX11_round_63 : decode cX11_round 63 = .ok (.ireturn, 1) := by decide +kernel
theorem dX11_round_64 : decode cX11_round 64 = .ok (.aload_n 0, 1) := by decide +kernel
theorem dX11_round_65 : decode cX11_round 65 = .ok (.iload 4, 2) := by decide +kernel
theorem dX11_round_67 : decode cX11_round 67 = .ok (.invokevirtual 178, 3) := by decide +kernel
theorem dX11_round_70 : decode cX11_round 70 = .ok (.istore 5, 2) := by decide +kernel
theorem dX11_round_72 : decode cX11_round 72 = .ok (.iload 5, 2) := by decide +kernel
theorem dX11_round_74 : decode cX11_round 74 = .ok (.ifCond .ge 8, 3) := by decide +kernel
theorem dX11_round_77 : decode cX11_round 77 = .ok (.aload_n 0, 1) := by decide +kernel
theorem dX11_round_78 : decode cX11_round 78 = .ok (.getfield 169, 3) := by decide +kernel
theorem dX11_round_81 : decode cX11_round 81 = .ok (.ireturn, 1) := by decide +kernel
theorem dX11_round_82 : decode cX11_round 82 = .ok (.iload 5, 2) := by decide +kernel
theorem dX11_round_84 : decode cX11_round 84 = .ok (.iconst 4, 1) := by decide +kernel
theorem dX11_round_85 : decode cX11_round 85 = .ok (.if_icmp .ne 7, 3) := by decide +kernel
theorem dX11_round_88 : decode cX11_round 88 = .ok (.iconst 1, 1) := by decide +kernel
theorem dX11_round_89 : decode cX11_round 89 = .ok (.goto 4, 3) := by decide +kernel
theorem dX11_round_92 : decode cX11_round 92 = .ok (.iconst 0, 1) := by decide +kernel
theorem dX11_round_93 : decode cX11_round 93 = .ok (.istore_n 2, 1) := by decide +kernel
theorem dX11_round_94 : decode cX11_round 94 = .ok (.iload_n 2, 1) := by decide +kernel
theorem dX11_round_95 : decode cX11_round 95 = .ok (.ifCond .eq 7, 3) := by decide +kernel
theorem dX11_round_98 : decode cX11_round 98 = .ok (.iconst 1, 1) := by decide +kernel
theorem dX11_round_99 : decode cX11_round 99 = .ok (.goto 4, 3) := by decide +kernel
theorem dX11_round_102 : decode cX11_round 102 = .ok (.iconst 0, 1) := by decide +kernel
theorem dX11_round_103 : decode cX11_round 103 = .ok (.istore 6, 2) := by decide +kernel
theorem dX11_round_105 : decode cX11_round 105 = .ok (.iload 6, 2) := by decide +kernel
theorem dX11_round_107 : decode cX11_round 107 = .ok (.iconst 4, 1) := by decide +kernel
theorem dX11_round_108 : decode cX11_round 108 = .ok (.if_icmp .ge 32, 3) := by decide +kernel
theorem dX11_round_111 : decode cX11_round 111 = .ok (.aload_n 0, 1) := by decide +kernel
theorem dX11_round_112 : decode cX11_round 112 = .ok (.getfield 57, 3) := by decide +kernel
theorem dX11_round_115 : decode cX11_round 115 = .ok (.bipush 10, 2) := by decide +kernel
theorem dX11_round_117 : decode cX11_round 117 = .ok (.aload_n 0, 1) := by decide +kernel
theorem dX11_round_118 : decode cX11_round 118 = .ok (.getfield 169, 3) := by decide +kernel
theorem dX11_round_121 : decode cX11_round 121 = .ok (.imul, 1) := by decide +kernel
theorem dX11_round_122 : decode cX11_round 122 = .ok (.iload_n 3, 1) := by decide +kernel
theorem dX11_round_123 : decode cX11_round 123 = .ok (.iadd, 1) := by decide +kernel
theorem dX11_round_124 : decode cX11_round 124 = .ok (.aload_n 0, 1) := by decide +kernel
theorem dX11_round_125 : decode cX11_round 125 = .ok (.iload 6, 2) := by decide +kernel
theorem dX11_round_127 : decode cX11_round 127 = .ok (.invokevirtual 160, 3) := by decide +kernel
theorem dX11_round_130 : decode cX11_round 130 = .ok (.iastore, 1) := by decide +kernel
theorem dX11_round_131 : decode cX11_round 131 = .ok (.iinc 3 1, 3) := by decide +kernel
theorem dX11_round_134 : decode cX11_round 134 = .ok (.iinc 6 1, 3) := by decide +kernel
theorem dX11_round_137 : decode cX11_round 137 = .ok (.goto (-32), 3) := by decide +kernel
theorem dX11_round_140 : decode cX11_round 140 = .ok (.iinc 4 1, 3) := by decide +kernel
theorem dX11_round_143 : decode cX11_round 143 = .ok (.goto (-97), 3) := by decide +kernel
theorem dX11_round_146 : decode cX11_round 146 = .ok (.iload_n 1, 1) := by decide +kernel
theorem dX11_round_147 : decode cX11_round 147 = .ok (.ifCond .ne 8, 3) := by decide +kernel
theorem dX11_round_150 : decode cX11_round 150 = .ok (.aload_n 0, 1) := by decide +kernel
theorem dX11_round_151 : decode cX11_round 151 = .ok (.getfield 169, 3) := by decide +kernel
theorem dX11_round_154 : decode cX11_round 154 = .ok (.ireturn, 1) := by decide +kernel
theorem dX11_round_155 : decode cX11_round 155 = .ok (.aload_n 0, 1) := by decide +kernel
theorem dX11_round_156 : decode cX11_round 156 = .ok (.getfield 54, 3) := by decide +kernel
theorem dX11_round_159 : decode cX11_round 159 = .ok (.aload_n 0, 1) := by decide +kernel
theorem dX11_round_160 : decode cX11_round 160 = .ok (.getfield 169, 3) := by decide +kernel
theorem dX11_round_163 : decode cX11_round 163 = .ok (.iload_n 3, 1) := by decide +kernel
theorem dX11_round_164 : decode cX11_round 164 = .ok (.iastore, 1) := by decide +kernel
theorem dX11_round_165 : decode cX11_round 165 = .ok (.aload_n 0, 1) := by decide +kernel
theorem dX11_round_166 : decode cX11_round 166 = .ok (.dup, 1) := by decide +kernel
theorem dX11_round_167 : decode cX11_round 167 = .ok (.getfield 169, 3) := by decide +kernel
theorem dX11_round_170 : decode cX11_round 170 = .ok (.iconst 1, 1) := by decide +kernel
theorem dX11_round_171 : decode cX11_round 171 = .ok (.iadd, 1) := by decide +kernel
theorem dX11_round_172 : decode cX11_round 172 = .ok (.putfield 169, 3) := by decide +kernel
theorem dX11_round_175 : decode cX11_round 175 = .ok (.aload_n 0, 1) := by decide +kernel
theorem dX11_round_176 : decode cX11_round 176 = .ok (.iconst 0, 1) := by decide +kernel
theorem dX11_round_177 : decode cX11_round 177 = .ok (.putfield 104, 3) := by decide +kernel
theorem dX11_round_180 : decode cX11_round 180 = .ok (.aload_n 0, 1) := by decide +kernel
theorem dX11_round_181 : decode cX11_round 181 = .ok (.bipush 80, 2) := by decide +kernel
theorem dX11_round_183 : decode cX11_round 183 = .ok (.invokevirtual 154, 3) := by decide +kernel
theorem dX11_round_186 : decode cX11_round 186 = .ok (.aload_n 0, 1) := by decide +kernel
theorem dX11_round_187 : decode cX11_round 187 = .ok (.iconst 0, 1) := by decide +kernel
theorem dX11_round_188 : decode cX11_round 188 = .ok (.invokevirtual 154, 3) := by decide +kernel
theorem dX11_round_191 : decode cX11_round 191 = .ok (.aload_n 0, 1) := by decide +kernel
theorem dX11_round_192 : decode cX11_round 192 = .ok (.invokevirtual 166, 3) := by decide +kernel
theorem dX11_round_195 : decode cX11_round 195 = .ok (.aload_n 0, 1) := by decide +kernel
theorem dX11_round_196 : decode cX11_round 196 = .ok (.invokevirtual 148, 3) := by decide +kernel
theorem dX11_round_199 : decode cX11_round 199 = .ok (.goto (-192), 3) := by decide +kernel
theorem dX11_round_202 : decode cX11_round 202 = .ok (.aload_n 0, 1) := by decide +kernel
theorem dX11_round_203 : decode cX11_round 203 = .ok (.getfield 169, 3) := by decide +kernel
theorem dX11_round_206 : decode cX11_round 206 = .ok (.ireturn, 1) := by decide +kernel
theorem dX11_found_0 : decode cX11_found 0 = .ok (.iload_n 1, 1) := by decide +kernel
theorem dX11_found_1 : decode cX11_found 1 = .ok (.ifCond .lt 25, 3) := by decide +kernel
theorem dX11_found_4 : decode cX11_found 4 = .ok (.iload_n 1, 1) := by decide +kernel
theorem dX11_found_5 : decode cX11_found 5 = .ok (.aload_n 0, 1) := by decide +kernel
theorem dX11_found_6 : decode cX11_found 6 = .ok (.getfield 169, 3) := by decide +kernel
theorem dX11_found_9 : decode cX11_found 9 = .ok (.if_icmp .ge 17, 3) := by decide +kernel
theorem dX11_found_12 : decode cX11_found 12 = .ok (.iload_n 2, 1) := by decide +kernel
theorem dX11_found_13 : decode cX11_found 13 = .ok (.ifCond .lt 13, 3) := by decide +kernel
theorem dX11_found_16 : decode cX11_found 16 = .ok (.iload_n 2, 1) := by decide +kernel
theorem dX11_found_17 : decode cX11_found 17 = .ok (.aload_n 0, 1) := by decide +kernel
theorem dX11_found_18 : decode cX11_found 18 = .ok (.getfield 54, 3) := by decide +kernel
theorem dX11_found_21 : decode cX11_found 21 = .ok (.iload_n 1, 1) := by decide +kernel
theorem dX11_found_22 : decode cX11_found 22 = .ok (.iaload, 1) := by decide +kernel
theorem dX11_found_23 : decode cX11_found 23 = .ok (.if_icmp .lt 7, 3) := by decide +kernel
theorem dX11_found_26 : decode cX11_found 26 = .ok (.iconst (-1), 1) := by decide +kernel
theorem dX11_found_27 : decode cX11_found 27 = .ok (.goto 14, 3) := by decide +kernel
theorem dX11_found_30 : decode cX11_found 30 = .ok (.aload_n 0, 1) := by decide +kernel
theorem dX11_found_31 : decode cX11_found 31 = .ok (.getfield 57, 3) := by decide +kernel
theorem dX11_found_34 : decode cX11_found 34 = .ok (.bipush 10, 2) := by decide +kernel
theorem dX11_found_36 : decode cX11_found 36 = .ok (.iload_n 1, 1) := by decide +kernel
theorem dX11_found_37 : decode cX11_found 37 = .ok (.imul, 1) := by decide +kernel
theorem dX11_found_38 : decode cX11_found 38 = .ok (.iload_n 2, 1) := by decide +kernel
theorem dX11_found_39 : decode cX11_found 39 = .ok (.iadd, 1) := by decide +kernel
theorem dX11_found_40 : decode cX11_found 40 = .ok (.iaload, 1) := by decide +kernel
theorem dX11_found_41 : decode cX11_found 41 = .ok (.ireturn, 1) := by decide +kernel
theorem dX11_frames_0 : decode cX11_frames 0 = .ok (.aload_n 0, 1) := by decide +kernel
theorem dX11_frames_1 : decode cX11_frames 1 = .ok (.getfield 136, 3) := by decide +kernel
theorem dX11_frames_4 : decode cX11_frames 4 = .ok (.ireturn, 1) := by decide +kernel
end
section
theorem dL_law_0 : decode cL_law 0 = .ok (.new 7, 3) := by decide +kernel
theorem dL_law_3 : decode cL_law 3 = .ok (.dup, 1) := by decide +kernel
theorem dL_law_4 : decode cL_law 4 = .ok (.invokespecial 9, 3) := by decide +kernel
theorem dL_law_7 : decode cL_law 7 = .ok (.astore_n 1, 1) := by decide +kernel
theorem dL_law_8 : decode cL_law 8 = .ok (.new 10, 3) := by decide +kernel
theorem dL_law_11 : decode cL_law 11 = .ok (.dup, 1) := by decide +kernel
theorem dL_law_12 : decode cL_law 12 = .ok (.invokespecial 12, 3) := by decide +kernel
theorem dL_law_15 : decode cL_law 15 = .ok (.astore_n 2, 1) := by decide +kernel
theorem dL_law_16 : decode cL_law 16 = .ok (.iconst 0, 1) := by decide +kernel
theorem dL_law_17 : decode cL_law 17 = .ok (.istore_n 3, 1) := by decide +kernel
theorem dL_law_18 : decode cL_law 18 = .ok (.iload_n 3, 1) := by decide +kernel
theorem dL_law_19 : decode cL_law 19 = .ok (.aload_n 0, 1) := by decide +kernel
theorem dL_law_20 : decode cL_law 20 = .ok (.arraylength, 1) := by decide +kernel
theorem dL_law_21 : decode cL_law 21 = .ok (.iconst 5, 1) := by decide +kernel
theorem dL_law_22 : decode cL_law 22 = .ok (.isub, 1) := by decide +kernel
theorem dL_law_23 : decode cL_law 23 = .ok (.if_icmp .gt 407, 3) := by decide +kernel
theorem dL_law_26 : decode cL_law 26 = .ok (.aload_n 0, 1) := by decide +kernel
theorem dL_law_27 : decode cL_law 27 = .ok (.iload_n 3, 1) := by decide +kernel
theorem dL_law_28 : decode cL_law 28 = .ok (.iaload, 1) := by decide +kernel
theorem dL_law_29 : decode cL_law 29 = .ok (.bipush 15, 2) := by decide +kernel
theorem dL_law_31 : decode cL_law 31 = .ok (.iand, 1) := by decide +kernel
theorem dL_law_32 : decode cL_law 32 = .ok (.tableswitch 392 0 11 #[64, 117, 166, 205, 238, 261, 274, 287, 310, 333, 346, 379], 64) := by decide +kernel
theorem dL_law_96 : decode cL_law 96 = .ok (.aload_n 1, 1) := by decide +kernel
theorem dL_law_97 : decode cL_law 97 = .ok (.aload_n 0, 1) := by decide +kernel
theorem dL_law_98 : decode cL_law 98 = .ok (.iload_n 3, 1) := by decide +kernel
theorem dL_law_99 : decode cL_law 99 = .ok (.iconst 1, 1) := by decide +kernel
theorem dL_law_100 : decode cL_law 100 = .ok (.iadd, 1) := by decide +kernel
theorem dL_law_101 : decode cL_law 101 = .ok (.iaload, 1) := by decide +kernel
theorem dL_law_102 : decode cL_law 102 = .ok (.aload_n 0, 1) := by decide +kernel
theorem dL_law_103 : decode cL_law 103 = .ok (.iload_n 3, 1) := by decide +kernel
theorem dL_law_104 : decode cL_law 104 = .ok (.iconst 2, 1) := by decide +kernel
theorem dL_law_105 : decode cL_law 105 = .ok (.iadd, 1) := by decide +kernel
theorem dL_law_106 : decode cL_law 106 = .ok (.iaload, 1) := by decide +kernel
theorem dL_law_107 : decode cL_law 107 = .ok (.aload_n 0, 1) := by decide +kernel
theorem dL_law_108 : decode cL_law 108 = .ok (.iload_n 3, 1) := by decide +kernel
theorem dL_law_109 : decode cL_law 109 = .ok (.iconst 3, 1) := by decide +kernel
theorem dL_law_110 : decode cL_law 110 = .ok (.iadd, 1) := by decide +kernel
theorem dL_law_111 : decode cL_law 111 = .ok (.iaload, 1) := by decide +kernel
theorem dL_law_112 : decode cL_law 112 = .ok (.aload_n 0, 1) := by decide +kernel
theorem dL_law_113 : decode cL_law 113 = .ok (.iload_n 3, 1) := by decide +kernel
theorem dL_law_114 : decode cL_law 114 = .ok (.iconst 4, 1) := by decide +kernel
theorem dL_law_115 : decode cL_law 115 = .ok (.iadd, 1) := by decide +kernel
theorem dL_law_116 : decode cL_law 116 = .ok (.iaload, 1) := by decide +kernel
theorem dL_law_117 : decode cL_law 117 = .ok (.invokevirtual 13, 3) := by decide +kernel
theorem dL_law_120 : decode cL_law 120 = .ok (.aload_n 2, 1) := by decide +kernel
theorem dL_law_121 : decode cL_law 121 = .ok (.aload_n 0, 1) := by decide +kernel
theorem dL_law_122 : decode cL_law 122 = .ok (.iload_n 3, 1) := by decide +kernel
theorem dL_law_123 : decode cL_law 123 = .ok (.iconst 1, 1) := by decide +kernel
theorem dL_law_124 : decode cL_law 124 = .ok (.iadd, 1) := by decide +kernel
theorem dL_law_125 : decode cL_law 125 = .ok (.iaload, 1) := by decide +kernel
theorem dL_law_126 : decode cL_law 126 = .ok (.aload_n 0, 1) := by decide +kernel
theorem dL_law_127 : decode cL_law 127 = .ok (.iload_n 3, 1) := by decide +kernel
theorem dL_law_128 : decode cL_law 128 = .ok (.iconst 2, 1) := by decide +kernel
theorem dL_law_129 : decode cL_law 129 = .ok (.iadd, 1) := by decide +kernel
theorem dL_law_130 : decode cL_law 130 = .ok (.iaload, 1) := by decide +kernel
theorem dL_law_131 : decode cL_law 131 = .ok (.aload_n 0, 1) := by decide +kernel
theorem dL_law_132 : decode cL_law 132 = .ok (.iload_n 3, 1) := by decide +kernel
theorem dL_law_133 : decode cL_law 133 = .ok (.iconst 3, 1) := by decide +kernel
theorem dL_law_134 : decode cL_law 134 = .ok (.iadd, 1) := by decide +kernel
theorem dL_law_135 : decode cL_law 135 = .ok (.iaload, 1) := by decide +kernel
theorem dL_law_136 : decode cL_law 136 = .ok (.aload_n 0, 1) := by decide +kernel
theorem dL_law_137 : decode cL_law 137 = .ok (.iload_n 3, 1) := by decide +kernel
theorem dL_law_138 : decode cL_law 138 = .ok (.iconst 4, 1) := by decide +kernel
theorem dL_law_139 : decode cL_law 139 = .ok (.iadd, 1) := by decide +kernel
theorem dL_law_140 : decode cL_law 140 = .ok (.iaload, 1) := by decide +kernel
theorem dL_law_141 : decode cL_law 141 = .ok (.invokevirtual 17, 3) := by decide +kernel
theorem dL_law_144 : decode cL_law 144 = .ok (.if_icmp .eq 280, 3) := by decide +kernel
theorem dL_law_147 : decode cL_law 147 = .ok (.iconst 0, 1) := by decide +kernel
theorem dL_law_148 : decode cL_law 148 = .ok (.ireturn, 1) := by decide +kernel
theorem dL_law_149 : decode cL_law 149 = .ok (.aload_n 1, 1) := by decide +kernel
theorem dL_law_150 : decode cL_law 150 = .ok (.aload_n 0, 1) := by decide +kernel
theorem dL_law_151 : decode cL_law 151 = .ok (.iload_n 3, 1) := by decide +kernel
theorem dL_law_152 : decode cL_law 152 = .ok (.iconst 1, 1) := by decide +kernel
theorem dL_law_153 : decode cL_law 153 = .ok (.iadd, 1) := by decide +kernel
theorem dL_law_154 : decode cL_law 154 = .ok (.iaload, 1) := by decide +kernel
theorem dL_law_155 : decode cL_law 155 = .ok (.aload_n 0, 1) := by decide +kernel
theorem dL_law_156 : decode cL_law 156 = .ok (.iload_n 3, 1) := by decide +kernel
theorem dL_law_157 : decode cL_law 157 = .ok (.iconst 2, 1) := by decide +kernel
theorem dL_law_158 : decode cL_law 158 = .ok (.iadd, 1) := by decide +kernel
theorem dL_law_159 : decode cL_law 159 = .ok (.iaload, 1) := by decide +kernel
theorem dL_law_160 : decode cL_law 160 = .ok (.ifCond .eq 7, 3) := by decide +kernel
theorem dL_law_163 : decode cL_law 163 = .ok (.iconst 1, 1) := by decide +kernel
theorem dL_law_164 : decode cL_law 164 = .ok (.goto 4, 3) := by decide +kernel
theorem dL_law_167 : decode cL_law 167 = .ok (.iconst 0, 1) := by decide +kernel
theorem dL_law_168 : decode cL_law 168 = .ok (.invokevirtual 18, 3) := by decide +kernel
theorem dL_law_171 : decode cL_law 171 = .ok (.aload_n 2, 1) := by decide +kernel
theorem dL_law_172 : decode cL_law 172 = .ok (.aload_n 0, 1) := by decide +kernel
theorem dL_law_173 : decode cL_law 173 = .ok (.iload_n 3, 1) := by decide +kernel
theorem dL_law_174 : decode cL_law 174 = .ok (.iconst 1, 1) := by decide +kernel
theorem dL_law_175 : decode cL_law 175 = .ok (.iadd, 1) := by decide +kernel
theorem dL_law_176 : decode cL_law 176 = .ok (.iaload, 1) := by decide +kernel
theorem dL_law_177 : decode cL_law 177 = .ok (.aload_n 0, 1) := by decide +kernel
theorem dL_law_178 : decode cL_law 178 = .ok (.iload_n 3, 1) := by decide +kernel
theorem dL_law_179 : decode cL_law 179 = .ok (.iconst 2, 1) := by decide +kernel
theorem dL_law_180 : decode cL_law 180 = .ok (.iadd, 1) := by decide +kernel
theorem dL_law_181 : decode cL_law 181 = .ok (.iaload, 1) := by decide +kernel
theorem dL_law_182 : decode cL_law 182 = .ok (.ifCond .eq 7, 3) := by decide +kernel
theorem dL_law_185 : decode cL_law 185 = .ok (.iconst 1, 1) := by decide +kernel
theorem dL_law_186 : decode cL_law 186 = .ok (.goto 4, 3) := by decide +kernel
theorem dL_law_189 : decode cL_law 189 = .ok (.iconst 0, 1) := by decide +kernel
theorem dL_law_190 : decode cL_law 190 = .ok (.invokevirtual 22, 3) := by decide +kernel
theorem dL_law_193 : decode cL_law 193 = .ok (.if_icmp .eq 231, 3) := by decide +kernel
theorem dL_law_196 : decode cL_law 196 = .ok (.iconst 0, 1) := by decide +kernel
theorem dL_law_197 : decode cL_law 197 = .ok (.ireturn, 1) := by decide +kernel
theorem dL_law_198 : decode cL_law 198 = .ok (.aload_n 1, 1) := by decide +kernel
theorem dL_law_199 : decode cL_law 199 = .ok (.aload_n 0, 1) := by decide +kernel
theorem dL_law_200 : decode cL_law 200 = .ok (.iload_n 3, 1) := by decide +kernel
theorem dL_law_201 : decode cL_law 201 = .ok (.iconst 1, 1) := by decide +kernel
theorem dL_law_202 : decode cL_law 202 = .ok (.iadd, 1) := by decide +kernel
theorem dL_law_203 : decode cL_law 203 = .ok (.iaload, 1) := by decide +kernel
theorem dL_law_204 : decode cL_law 204 = .ok (.ifCond .eq 7, 3) := by decide +kernel
theorem dL_law_207 : decode cL_law 207 = .ok (.iconst 1, 1) := by decide +kernel
theorem dL_law_208 : decode cL_law 208 = .ok (.goto 4, 3) := by decide +kernel
theorem dL_law_211 : decode cL_law 211 = .ok (.iconst 0, 1) := by decide +kernel
theorem dL_law_212 : decode cL_law 212 = .ok (.invokevirtual 23, 3) := by decide +kernel
theorem dL_law_215 : decode cL_law 215 = .ok (.aload_n 2, 1) := by decide +kernel
theorem dL_law_216 : decode cL_law 216 = .ok (.aload_n 0, 1) := by decide +kernel
theorem dL_law_217 : decode cL_law 217 = .ok (.iload_n 3, 1) := by decide +kernel
theorem dL_law_218 : decode cL_law 218 = .ok (.iconst 1, 1) := by decide +kernel
theorem dL_law_219 : decode cL_law 219 = .ok (.iadd, 1) := by decide +kernel
theorem dL_law_220 : decode cL_law 220 = .ok (.iaload, 1) := by decide +kernel
theorem dL_law_221 : decode cL_law 221 = .ok (.ifCond .eq 7, 3) := by decide +kernel
theorem dL_law_224 : decode cL_law 224 = .ok (.iconst 1, 1) := by decide +kernel
theorem dL_law_225 : decode cL_law 225 = .ok (.goto 4, 3) := by decide +kernel
theorem dL_law_228 : decode cL_law 228 = .ok (.iconst 0, 1) := by decide +kernel
theorem dL_law_229 : decode cL_law 229 = .ok (.invokevirtual 27, 3) := by decide +kernel
theorem dL_law_232 : decode cL_law 232 = .ok (.if_icmp .eq 192, 3) := by decide +kernel
theorem dL_law_235 : decode cL_law 235 = .ok (.iconst 0, 1) := by decide +kernel
theorem dL_law_236 : decode cL_law 236 = .ok (.ireturn, 1) := by decide +kernel
theorem dL_law_237 : decode cL_law 237 = .ok (.aload_n 1, 1) := by decide +kernel
theorem dL_law_238 : decode cL_law 238 = .ok (.aload_n 0, 1) := by decide +kernel
theorem dL_law_239 : decode cL_law 239 = .ok (.iload_n 3, 1) := by decide +kernel
theorem dL_law_240 : decode cL_law 240 = .ok (.iconst 1, 1) := by decide +kernel
theorem dL_law_241 : decode cL_law 241 = .ok (.iadd, 1) := by decide +kernel
theorem dL_law_242 : decode cL_law 242 = .ok (.iaload, 1) := by decide +kernel
theorem dL_law_243 : decode cL_law 243 = .ok (.aload_n 0, 1) := by decide +kernel
theorem dL_law_244 : decode cL_law 244 = .ok (.iload_n 3, 1) := by decide +kernel
theorem dL_law_245 : decode cL_law 245 = .ok (.iconst 2, 1) := by decide +kernel
theorem dL_law_246 : decode cL_law 246 = .ok (.iadd, 1) := by decide +kernel
theorem dL_law_247 : decode cL_law 247 = .ok (.iaload, 1) := by decide +kernel
theorem dL_law_248 : decode cL_law 248 = .ok (.invokevirtual 28, 3) := by decide +kernel
theorem dL_law_251 : decode cL_law 251 = .ok (.aload_n 2, 1) := by decide +kernel
theorem dL_law_252 : decode cL_law 252 = .ok (.aload_n 0, 1) := by decide +kernel
theorem dL_law_253 : decode cL_law 253 = .ok (.iload_n 3, 1) := by decide +kernel
theorem dL_law_254 : decode cL_law 254 = .ok (.iconst 1, 1) := by decide +kernel
theorem dL_law_255 : decode cL_law 255 = .ok (.iadd, 1) := by decide +kernel
theorem dL_law_256 : decode cL_law 256 = .ok (.iaload, 1) := by decide +kernel
theorem dL_law_257 : decode cL_law 257 = .ok (.aload_n 0, 1) := by decide +kernel
theorem dL_law_258 : decode cL_law 258 = .ok (.iload_n 3, 1) := by decide +kernel
theorem dL_law_259 : decode cL_law 259 = .ok (.iconst 2, 1) := by decide +kernel
theorem dL_law_260 : decode cL_law 260 = .ok (.iadd, 1) := by decide +kernel
theorem dL_law_261 : decode cL_law 261 = .ok (.iaload, 1) := by decide +kernel
theorem dL_law_262 : decode cL_law 262 = .ok (.invokevirtual 32, 3) := by decide +kernel
theorem dL_law_265 : decode cL_law 265 = .ok (.if_icmp .eq 159, 3) := by decide +kernel
theorem dL_law_268 : decode cL_law 268 = .ok (.iconst 0, 1) := by decide +kernel
theorem dL_law_269 : decode cL_law 269 = .ok (.ireturn, 1) := by decide +kernel
theorem dL_law_270 : decode cL_law 270 = .ok (.aload_n 1, 1) := by decide +kernel
theorem dL_law_271 : decode cL_law 271 = .ok (.aload_n 0, 1) := by decide +kernel
theorem dL_law_272 : decode cL_law 272 = .ok (.iload_n 3, 1) := by decide +kernel
theorem dL_law_273 : decode cL_law 273 = .ok (.iconst 1, 1) := by decide +kernel
theorem dL_law_274 : decode cL_law 274 = .ok (.iadd, 1) := by decide +kernel
theorem dL_law_275 : decode cL_law 275 = .ok (.iaload, 1) := by decide +kernel
theorem dL_law_276 : decode cL_law 276 = .ok (.invokevirtual 33, 3) := by decide +kernel
theorem dL_law_279 : decode cL_law 279 = .ok (.aload_n 2, 1) := by decide +kernel
theorem dL_law_280 : decode cL_law 280 = .ok (.aload_n 0, 1) := by decide +kernel
theorem dL_law_281 : decode cL_law 281 = .ok (.iload_n 3, 1) := by decide +kernel
theorem dL_law_282 : decode cL_law 282 = .ok (.iconst 1, 1) := by decide +kernel
theorem dL_law_283 : decode cL_law 283 = .ok (.iadd, 1) := by decide +kernel
theorem dL_law_284 : decode cL_law 284 = .ok (.iaload, 1) := by decide +kernel
theorem dL_law_285 : decode cL_law 285 = .ok (.invokevirtual 37, 3) := by decide +kernel
theorem dL_law_288 : decode cL_law 288 = .ok (.if_icmp .eq 136, 3) := by decide +kernel
theorem dL_law_291 : decode cL_law 291 = .ok (.iconst 0, 1) := by decide +kernel
theorem dL_law_292 : decode cL_law 292 = .ok (.ireturn, 1) := by decide +kernel
theorem dL_law_293 : decode cL_law 293 = .ok (.aload_n 1, 1) := by decide +kernel
theorem dL_law_294 : decode cL_law 294 = .ok (.invokevirtual 38, 3) := by decide +kernel
theorem dL_law_297 : decode cL_law 297 = .ok (.aload_n 2, 1) := by decide +kernel
theorem dL_law_298 : decode cL_law 298 = .ok (.invokevirtual 42, 3) := by decide +kernel
theorem dL_law_301 : decode cL_law 301 = .ok (.if_icmp .eq 123, 3) := by decide +kernel
theorem dL_law_304 : decode cL_law 304 = .ok (.iconst 0, 1) := by decide +kernel
theorem dL_law_305 : decode cL_law 305 = .ok (.ireturn, 1) := by decide +kernel
theorem dL_law_306 : decode cL_law 306 = .ok (.aload_n 1, 1) := by decide +kernel
theorem dL_law_307 : decode cL_law 307 = .ok (.invokevirtual 43, 3) := by decide +kernel
theorem dL_law_310 : decode cL_law 310 = .ok (.aload_n 2, 1) := by decide +kernel
theorem dL_law_311 : decode cL_law 311 = .ok (.invokevirtual 46, 3) := by decide +kernel
theorem dL_law_314 : decode cL_law 314 = .ok (.if_icmp .eq 110, 3) := by decide +kernel
theorem dL_law_317 : decode cL_law 317 = .ok (.iconst 0, 1) := by decide +kernel
theorem dL_law_318 : decode cL_law 318 = .ok (.ireturn, 1) := by decide +kernel
theorem dL_law_319 : decode cL_law 319 = .ok (.aload_n 1, 1) := by decide +kernel
theorem dL_law_320 : decode cL_law 320 = .ok (.aload_n 0, 1) := by decide +kernel
theorem dL_law_321 : decode cL_law 321 = .ok (.iload_n 3, 1) := by decide +kernel
theorem dL_law_322 : decode cL_law 322 = .ok (.iconst 1, 1) := by decide +kernel
theorem dL_law_323 : decode cL_law 323 = .ok (.iadd, 1) := by decide +kernel
theorem dL_law_324 : decode cL_law 324 = .ok (.iaload, 1) := by decide +kernel
theorem dL_law_325 : decode cL_law 325 = .ok (.invokevirtual 47, 3) := by decide +kernel
theorem dL_law_328 : decode cL_law 328 = .ok (.aload_n 2, 1) := by decide +kernel
theorem dL_law_329 : decode cL_law 329 = .ok (.aload_n 0, 1) := by decide +kernel
theorem dL_law_330 : decode cL_law 330 = .ok (.iload_n 3, 1) := by decide +kernel
theorem dL_law_331 : decode cL_law 331 = .ok (.iconst 1, 1) := by decide +kernel
theorem dL_law_332 : decode cL_law 332 = .ok (.iadd, 1) := by decide +kernel
theorem dL_law_333 : decode cL_law 333 = .ok (.iaload, 1) := by decide +kernel
theorem dL_law_334 : decode cL_law 334 = .ok (.invokevirtual 50, 3) := by decide +kernel
theorem dL_law_337 : decode cL_law 337 = .ok (.if_icmp .eq 87, 3) := by decide +kernel
theorem dL_law_340 : decode cL_law 340 = .ok (.iconst 0, 1) := by decide +kernel
theorem dL_law_341 : decode cL_law 341 = .ok (.ireturn, 1) := by decide +kernel
theorem dL_law_342 : decode cL_law 342 = .ok (.aload_n 1, 1) := by decide +kernel
theorem dL_law_343 : decode cL_law 343 = .ok (.aload_n 0, 1) := by decide +kernel
theorem dL_law_344 : decode cL_law 344 = .ok (.iload_n 3, 1) := by decide +kernel
theorem dL_law_345 : decode cL_law 345 = .ok (.iconst 1, 1) := by decide +kernel
theorem dL_law_346 : decode cL_law 346 = .ok (.iadd, 1) := by decide +kernel
theorem dL_law_347 : decode cL_law 347 = .ok (.iaload, 1) := by decide +kernel
theorem dL_law_348 : decode cL_law 348 = .ok (.invokevirtual 51, 3) := by decide +kernel
theorem dL_law_351 : decode cL_law 351 = .ok (.aload_n 2, 1) := by decide +kernel
theorem dL_law_352 : decode cL_law 352 = .ok (.aload_n 0, 1) := by decide +kernel
theorem dL_law_353 : decode cL_law 353 = .ok (.iload_n 3, 1) := by decide +kernel
theorem dL_law_354 : decode cL_law 354 = .ok (.iconst 1, 1) := by decide +kernel
theorem dL_law_355 : decode cL_law 355 = .ok (.iadd, 1) := by decide +kernel
theorem dL_law_356 : decode cL_law 356 = .ok (.iaload, 1) := by decide +kernel
theorem dL_law_357 : decode cL_law 357 = .ok (.invokevirtual 54, 3) := by decide +kernel
theorem dL_law_360 : decode cL_law 360 = .ok (.if_icmp .eq 64, 3) := by decide +kernel
theorem dL_law_363 : decode cL_law 363 = .ok (.iconst 0, 1) := by decide +kernel
theorem dL_law_364 : decode cL_law 364 = .ok (.ireturn, 1) := by decide +kernel
theorem dL_law_365 : decode cL_law 365 = .ok (.aload_n 1, 1) := by decide +kernel
theorem dL_law_366 : decode cL_law 366 = .ok (.invokevirtual 55, 3) := by decide +kernel
theorem dL_law_369 : decode cL_law 369 = .ok (.aload_n 2, 1) := by decide +kernel
theorem dL_law_370 : decode cL_law 370 = .ok (.invokevirtual 58, 3) := by decide +kernel
theorem dL_law_373 : decode cL_law 373 = .ok (.if_icmp .eq 51, 3) := by decide +kernel
theorem dL_law_376 : decode cL_law 376 = .ok (.iconst 0, 1) := by decide +kernel
theorem dL_law_377 : decode cL_law 377 = .ok (.ireturn, 1) := by decide +kernel
theorem dL_law_378 : decode cL_law 378 = .ok (.aload_n 1, 1) := by decide +kernel
theorem dL_law_379 : decode cL_law 379 = .ok (.aload_n 0, 1) := by decide +kernel
theorem dL_law_380 : decode cL_law 380 = .ok (.iload_n 3, 1) := by decide +kernel
theorem dL_law_381 : decode cL_law 381 = .ok (.iconst 1, 1) := by decide +kernel
theorem dL_law_382 : decode cL_law 382 = .ok (.iadd, 1) := by decide +kernel
theorem dL_law_383 : decode cL_law 383 = .ok (.iaload, 1) := by decide +kernel
theorem dL_law_384 : decode cL_law 384 = .ok (.aload_n 0, 1) := by decide +kernel
theorem dL_law_385 : decode cL_law 385 = .ok (.iload_n 3, 1) := by decide +kernel
theorem dL_law_386 : decode cL_law 386 = .ok (.iconst 2, 1) := by decide +kernel
theorem dL_law_387 : decode cL_law 387 = .ok (.iadd, 1) := by decide +kernel
theorem dL_law_388 : decode cL_law 388 = .ok (.iaload, 1) := by decide +kernel
theorem dL_law_389 : decode cL_law 389 = .ok (.invokevirtual 59, 3) := by decide +kernel
theorem dL_law_392 : decode cL_law 392 = .ok (.aload_n 2, 1) := by decide +kernel
theorem dL_law_393 : decode cL_law 393 = .ok (.aload_n 0, 1) := by decide +kernel
theorem dL_law_394 : decode cL_law 394 = .ok (.iload_n 3, 1) := by decide +kernel
theorem dL_law_395 : decode cL_law 395 = .ok (.iconst 1, 1) := by decide +kernel
theorem dL_law_396 : decode cL_law 396 = .ok (.iadd, 1) := by decide +kernel
theorem dL_law_397 : decode cL_law 397 = .ok (.iaload, 1) := by decide +kernel
theorem dL_law_398 : decode cL_law 398 = .ok (.aload_n 0, 1) := by decide +kernel
theorem dL_law_399 : decode cL_law 399 = .ok (.iload_n 3, 1) := by decide +kernel
theorem dL_law_400 : decode cL_law 400 = .ok (.iconst 2, 1) := by decide +kernel
theorem dL_law_401 : decode cL_law 401 = .ok (.iadd, 1) := by decide +kernel
theorem dL_law_402 : decode cL_law 402 = .ok (.iaload, 1) := by decide +kernel
theorem dL_law_403 : decode cL_law 403 = .ok (.invokevirtual 62, 3) := by decide +kernel
theorem dL_law_406 : decode cL_law 406 = .ok (.if_icmp .eq 18, 3) := by decide +kernel
theorem dL_law_409 : decode cL_law 409 = .ok (.iconst 0, 1) := by decide +kernel
theorem dL_law_410 : decode cL_law 410 = .ok (.ireturn, 1) := by decide +kernel
theorem dL_law_411 : decode cL_law 411 = .ok (.aload_n 1, 1) := by decide +kernel
theorem dL_law_412 : decode cL_law 412 = .ok (.invokevirtual 63, 3) := by decide +kernel
theorem dL_law_415 : decode cL_law 415 = .ok (.aload_n 2, 1) := by decide +kernel
theorem dL_law_416 : decode cL_law 416 = .ok (.invokevirtual 66, 3) := by decide +kernel
theorem dL_law_419 : decode cL_law 419 = .ok (.if_icmp .eq 5, 3) := by decide +kernel
theorem dL_law_422 : decode cL_law 422 = .ok (.iconst 0, 1) := by decide +kernel
theorem dL_law_423 : decode cL_law 423 = .ok (.ireturn, 1) := by decide +kernel
theorem dL_law_424 : decode cL_law 424 = .ok (.iinc 3 5, 3) := by decide +kernel
theorem dL_law_427 : decode cL_law 427 = .ok (.goto (-409), 3) := by decide +kernel
theorem dL_law_430 : decode cL_law 430 = .ok (.iconst 1, 1) := by decide +kernel
theorem dL_law_431 : decode cL_law 431 = .ok (.ireturn, 1) := by decide +kernel
end
section
/-! numbers, frames of change, arrays of naturals -/
theorem hp_ne {μ : hp_M} {a b : Nat} {e1 e2 : va_E} (h1 : μ a = some e1) (h2 : μ b = some e2) (h : e1 ≠ e2) : a ≠ b := fun e => h (Option.some.inj (h1.symm.trans (e ▸ h2)))
def hp_eq (S : List Nat) (μ1 μ : hp_M) : Prop := ∀ q, q ∉ S → μ1 q = μ q
theorem hp_e1 {a c : Nat} {μ1 μ : hp_M} (h : hp_eq [a] μ1 μ) (n1 : c ≠ a) : μ1 c = μ c := h c (by simp [n1])
theorem hp_e2 {a b c : Nat} {μ1 μ : hp_M} (h : hp_eq [a, b] μ1 μ) (n1 : c ≠ a) (n2 : c ≠ b) : μ1 c = μ c := h c (by simp [n1, n2])
theorem hp_e3 {a b d c : Nat} {μ1 μ : hp_M} (h : hp_eq [a, b, d] μ1 μ) (n1 : c ≠ a) (n2 : c ≠ b) (n3 : c ≠ d) : μ1 c = μ c := h c (by simp [n1, n2, n3])
theorem hp_e4 {a b d f c : Nat} {μ1 μ : hp_M} (h : hp_eq [a, b, d, f] μ1 μ) (n1 : c ≠ a) (n2 : c ≠ b) (n3 : c ≠ d) (n4 : c ≠ f) : μ1 c = μ c := h c (by simp [n1, n2, n3, n4])
theorem hp_eq.put {S : List Nat} {μ2 μ1 μ : hp_M} {a : Nat} (h : hp_eq S μ1 μ) (ha : a ∈ S) (hn : ∀ q, q ≠ a → μ2 q = μ1 q) : hp_eq S μ2 μ := fun q hq => (hn q (fun e => hq (e ▸ ha))).trans (h q hq)
theorem hp_eq.tr {S S' : List Nat} {μ2 μ1 μ : hp_M} (fe : hp_eq S' μ2 μ1) (fr : hp_eq S μ1 μ) (hs : ∀ q ∈ S', q ∈ S) : hp_eq S μ2 μ := fun q hq => (fe q (fun h => hq (hs q h))).trans (fr q hq)
theorem hp_eq.tr1 {S : List Nat} {a : Nat} {μ2 μ1 μ : hp_M} (fe : hp_eq [a] μ2 μ1) (fr : hp_eq S μ1 μ) (ha : a ∈ S) : hp_eq S μ2 μ := fe.tr fr (by simp [ha])
theorem hp_eq.tr2 {S : List Nat} {a b : Nat} {μ2 μ1 μ : hp_M} (fe : hp_eq [a, b] μ2 μ1) (fr : hp_eq S μ1 μ) (ha : a ∈ S) (hb : b ∈ S) : hp_eq S μ2 μ := fe.tr fr (by simp [ha, hb])
theorem hp_eq.tr3 {S : List Nat} {a b d : Nat} {μ2 μ1 μ : hp_M} (fe : hp_eq [a, b, d] μ2 μ1) (fr : hp_eq S μ1 μ) (ha : a ∈ S) (hb : b ∈ S) (hd : d ∈ S) : hp_eq S μ2 μ := fe.tr fr (by simp [ha, hb, hd])
theorem hp_eq.tr4 {S : List Nat} {a b d f : Nat} {μ2 μ1 μ : hp_M} (fe : hp_eq [a, b, d, f] μ2 μ1) (fr : hp_eq S μ1 μ) (ha : a ∈ S) (hb : b ∈ S) (hd : d ∈ S) (hf : f ∈ S) : hp_eq S μ2 μ := fe.tr fr (by simp [ha, hb, hd, hf])
def nB (b : Bool) : Int32 := if b then 1 else 0
theorem nB_nar (b : Bool) : narrow .boolean (.int (nB b)) = .int (nB b) := by cases b <;> rfl
theorem nB_fit (b : Bool) : fits .boolean (.int (nB b)) = true := by cases b <;> rfl
theorem nB_0 {b : Bool} (h : nB b = 0) : b = false := by
  cases b with
  | false => rfl
  | true => exact absurd h (by decide)
theorem nB_n {b : Bool} (h : ¬ nB b = 0) : b = true := by
  cases b with
  | false => exact absurd rfl h
  | true => rfl
theorem nz_0 {n : Nat} (hn : n < 2 ^ 31) (h : nI n = 0) : n = 0 := (nI_eq hn (by decide)).mp (h.trans nI_0.symm)
theorem nz_n {n : Nat} (_ : n < 2 ^ 31) (h : ¬ nI n = 0) : ¬ (n = 0) := fun e => h (by rw [e]; exact nI_0)
theorem nz_gt {n : Nat} (hn : n < 2 ^ 31) (h : 0 < nI n) : 0 < n := (nI_ltI (by decide) hn).mp (by rw [nI_0]; exact h)
theorem nz_ngt {n : Nat} (hn : n < 2 ^ 31) (h : ¬ 0 < nI n) : n = 0 := by
  rcases Nat.eq_zero_or_pos n with e | e
  · exact e
  · exact absurd (by have := (nI_ltI (a := 0) (by decide) hn).mpr e; rw [nI_0] at this; exact this) h
theorem nz_le {n : Nat} (hn : n < 2 ^ 31) (h : nI n ≤ 0) : n = 0 := by
  have := (nI_leI (b := 0) hn (by decide)).mp (by rw [nI_0]; exact h)
  omega
theorem nz_nle {n : Nat} (hn : n < 2 ^ 31) (h : ¬ nI n ≤ 0) : 0 < n := by
  rcases Nat.eq_zero_or_pos n with e | e
  · exact absurd (by rw [e, nI_0]; decide) h
  · exact e
def setN (f : Nat → Nat) (k v : Nat) : Nat → Nat := fun j => if j = k then v else f j
def setL (f : Nat → Int64) (k : Nat) (v : Int64) : Nat → Int64 := fun j => if j = k then v else f j
/-- an int array that holds naturals -/
abbrev hp_n (X : hp_X) (n : Nat) (f : Nat → Nat) : va_E := hp_i X n (fun j => nI (f j))
section HPN
variable {p : Program} {l : Launch} {e : Env} {R : Room} {s : State} {m : MethodId} {args : Array Value} {below : List Frame} {meth : Method} {c : Code} {H : Heap} {locs : List Loc} {cells slots : Nat} {Q : State → Prop}
variable {cc : ByteArray} {pc : Nat} {ls : Array Slot} {rest : List Value} {X : hp_X} {cl : List vw_C} {a nx : Nat} {μ : hp_M}
theorem hp_ialdN (hexec : p.tables.exec = Jvm.exec) (hb : c.code = cc) (hA : ArrOfT s (X.2.2.1 0) .int) (hH : hp_w X cl μ nx H locs) {n i : Nat} {f : Nat → Nat} (hμ : μ a = some (hp_n X n f)) (hi : i < n) (hn : n < 2 ^ 31) (hdg : decode cc pc = .ok (.iaload, 1))
    (kk : W p l e R s m args below meth c H locs cells slots Q (F0 m (pc + 1) ls (.int (nI (f i)) :: rest))) : W p l e R s m args below meth c H locs cells slots Q (F0 m pc ls (.int (nI i) :: .ref a :: rest)) := by
  refine hp_iald hexec hb hA hH hμ (vp_in_nI hi hn) hdg ?_
  rw [nI_clamp (Nat.lt_trans hi hn)]
  exact kk
theorem hp_laldN (hexec : p.tables.exec = Jvm.exec) (hb : c.code = cc) (hA : ArrOfT s (X.2.2.1 1) .long) (hH : hp_w X cl μ nx H locs) {n i : Nat} {f : Nat → Int64} (hμ : μ a = some (hp_l X n f)) (hi : i < n) (hn : n < 2 ^ 31) (hdg : decode cc pc = .ok (.laload, 1))
    (kk : W p l e R s m args below meth c H locs cells slots Q (F0 m (pc + 1) ls (.long (f i) :: rest))) : W p l e R s m args below meth c H locs cells slots Q (F0 m pc ls (.int (nI i) :: .ref a :: rest)) := by
  refine hp_lald hexec hb hA hH hμ (vp_in_nI hi hn) hdg ?_
  rw [nI_clamp (Nat.lt_trans hi hn)]
  exact kk
theorem hp_iastN (hexec : p.tables.exec = Jvm.exec) (hb : c.code = cc) (hA : ArrOfT s (X.2.2.1 0) .int) (hH : hp_w X cl μ nx H locs) {n i v : Nat} {f : Nat → Nat} (hμ : μ a = some (hp_n X n f)) (hi : i < n) (hn : n < 2 ^ 31) (hdg : decode cc pc = .ok (.iastore, 1))
    (kk : ∀ (H1 : Heap) (locs1 : List Loc) (μ1 : hp_M), μ1 a = some (hp_n X n (setN f i v)) → (∀ q, q ≠ a → μ1 q = μ q) → hp_w X cl μ1 nx H1 locs1 → W p l e R s m args below meth c H1 locs1 cells slots Q (F0 m (pc + 1) ls rest)) : W p l e R s m args below meth c H locs cells slots Q (F0 m pc ls (.int (nI v) :: .int (nI i) :: .ref a :: rest)) := by
  refine hp_iast hexec hb hA hH hμ (vp_in_nI hi hn) hdg (fun H1 locs1 μ1 h1 h2 h3 => kk H1 locs1 μ1 ?_ h2 h3)
  rw [h1, nI_clamp (Nat.lt_trans hi hn)]
  congr 4
  funext j
  simp only [upd, setN]
  split <;> rfl
theorem hp_lastN (hexec : p.tables.exec = Jvm.exec) (hb : c.code = cc) (hA : ArrOfT s (X.2.2.1 1) .long) (hH : hp_w X cl μ nx H locs) {n i : Nat} {v : Int64} {f : Nat → Int64} (hμ : μ a = some (hp_l X n f)) (hi : i < n) (hn : n < 2 ^ 31) (hdg : decode cc pc = .ok (.lastore, 1))
    (kk : ∀ (H1 : Heap) (locs1 : List Loc) (μ1 : hp_M), μ1 a = some (hp_l X n (setL f i v)) → (∀ q, q ≠ a → μ1 q = μ q) → hp_w X cl μ1 nx H1 locs1 → W p l e R s m args below meth c H1 locs1 cells slots Q (F0 m (pc + 1) ls rest)) : W p l e R s m args below meth c H locs cells slots Q (F0 m pc ls (.long v :: .int (nI i) :: .ref a :: rest)) := by
  refine hp_last hexec hb hA hH hμ (vp_in_nI hi hn) hdg (fun H1 locs1 μ1 h1 h2 h3 => kk H1 locs1 μ1 ?_ h2 h3)
  rw [h1, nI_clamp (Nat.lt_trans hi hn)]
  rfl
theorem hp_acmp_eq (hexec : p.tables.exec = Jvm.exec) (hb : c.code = cc) {x y : Nat} {off : Int} {tgt : Nat} (hdg : decode cc pc = .ok (.if_acmp .eq off, 3)) (ht : (pc : Int) + off = (tgt : Int))
    (kt : x = y → W p l e R s m args below meth c H locs cells slots Q (F0 m tgt ls rest)) (kf : ¬ x = y → W p l e R s m args below meth c H locs cells slots Q (F0 m (pc + 3) ls rest)) : W p l e R s m args below meth c H locs cells slots Q (F0 m pc ls (.ref y :: .ref x :: rest)) :=
  lv_acmp_eq (rx := some x) (ry := some y) hexec hb hdg ht (fun h => kt (Option.some.inj h)) (fun h => kf (fun q => h (congrArg some q)))
theorem hp_acmp_ne (hexec : p.tables.exec = Jvm.exec) (hb : c.code = cc) {x y : Nat} {off : Int} {tgt : Nat} (hdg : decode cc pc = .ok (.if_acmp .ne off, 3)) (ht : (pc : Int) + off = (tgt : Int))
    (kt : ¬ x = y → W p l e R s m args below meth c H locs cells slots Q (F0 m tgt ls rest)) (kf : x = y → W p l e R s m args below meth c H locs cells slots Q (F0 m (pc + 3) ls rest)) : W p l e R s m args below meth c H locs cells slots Q (F0 m pc ls (.ref y :: .ref x :: rest)) :=
  lv_acmp_ne (rx := some x) (ry := some y) hexec hb hdg ht (fun h => kt (fun q => h (congrArg some q))) (fun h => kf (Option.some.inj h))
end HPN
/-- bit k of an int -/
def bitI (v : Int32) (k : Nat) : Nat := v.toBitVec.toNat / 2 ^ k % 2
theorem bitI_lt (v : Int32) (k : Nat) : bitI v k < 2 := Nat.mod_lt _ (by decide)
theorem z_cnt : ∀ i, i < 32 → (((nI i).toUInt32 &&& Int32.toUInt32 31).toBitVec % 32).toNat = i := by decide +kernel
theorem z_bit {v : Int32} {i : Nat} (hi : i < 32) : ((v.toUInt32 >>> ((nI i).toUInt32 &&& Int32.toUInt32 31)).toInt32 &&& nI 1) = nI (bitI v i) := by
  rw [pk_and _ 1 (by decide), pk_ushr v (nI i) i (z_cnt i hi)]
  rfl
end
section
/-! ===== nI under and, xor, >>>, one bit, 65535 ===== -/
theorem nx_and (a b : Nat) : nI a &&& nI b = nI (a &&& b) := by
  apply Int32.toBitVec_inj.1
  show BitVec.ofNat 32 a &&& BitVec.ofNat 32 b = BitVec.ofNat 32 (a &&& b)
  apply BitVec.eq_of_getLsbD_eq
  intro i hi
  simp [hi]
theorem nx_xor (a b : Nat) : nI a ^^^ nI b = nI (a ^^^ b) := by
  apply Int32.toBitVec_inj.1
  show BitVec.ofNat 32 a ^^^ BitVec.ofNat 32 b = BitVec.ofNat 32 (a ^^^ b)
  apply BitVec.eq_of_getLsbD_eq
  intro i hi
  simp [hi]
theorem nx_cnt : ∀ j : Fin 32, (UInt32.ofNat j.val &&& Int32.toUInt32 31).toNat % 32 = j.val := by decide +kernel
theorem nx_ush {k j : Nat} (hk : k < 65536) (hj : j < 32) : ((nI k).toUInt32 >>> ((nI j).toUInt32 &&& Int32.toUInt32 31)).toInt32 = nI (k >>> j) := by
  have hs : k >>> j ≤ k := by
    rw [Nat.shiftRight_eq_div_pow]
    exact Nat.div_le_self _ _
  have e2 : UInt32.ofNat k >>> (UInt32.ofNat j &&& Int32.toUInt32 31) = UInt32.ofNat (k >>> j) := by
    apply UInt32.toNat_inj.1
    have h1 : (UInt32.ofNat k).toNat = k := Nat.mod_eq_of_lt (by omega)
    have h2 : (UInt32.ofNat (k >>> j)).toNat = k >>> j := Nat.mod_eq_of_lt (by omega)
    rw [UInt32.toNat_shiftRight, nx_cnt ⟨j, hj⟩, h1, h2]
  show (UInt32.ofNat k >>> (UInt32.ofNat j &&& Int32.toUInt32 31)).toInt32 = _
  rw [e2]
  rfl
theorem nx_bit {k j : Nat} (hk : k < 65536) (hj : j < 16) : (((nI k).toUInt32 >>> ((nI j).toUInt32 &&& Int32.toUInt32 31)).toInt32 &&& 1) = 0 ↔ k.testBit j = false := by
  rw [nx_ush hk (by omega)]
  show nI (k >>> j) &&& nI 1 = 0 ↔ _
  rw [nx_and, Nat.and_one_is_mod, ← nI_0, nI_eq (by omega) (by omega), Nat.testBit_eq_decide_div_mod_eq, Nat.shiftRight_eq_div_pow, decide_eq_false_iff_not]
  generalize k / 2 ^ j = z
  omega
theorem nx_mod (k : Nat) : nI k &&& 65535 = nI (k % 65536) := by
  show nI k &&& nI 65535 = _
  rw [nx_and, show (65535 : Nat) = 2 ^ 16 - 1 from rfl, Nat.and_two_pow_sub_one_eq_mod]
theorem nx_m16 {k : Nat} (h : k < 65536) : nI k &&& 65535 = nI k := by rw [nx_mod, Nat.mod_eq_of_lt h]
theorem nx_mask (x : Int32) : ∃ k, k < 65536 ∧ x &&& 65535 = nI k := by
  have e : x = nI x.toBitVec.toNat := by
    apply Int32.toBitVec_inj.1
    show x.toBitVec = BitVec.ofNat 32 x.toBitVec.toNat
    simp
  refine ⟨x.toBitVec.toNat % 65536, Nat.mod_lt _ (by omega), ?_⟩
  rw [← nx_mod, ← e]
/-! ===== lN n to 2^64: shifts, and, or, masks, one bit ===== -/
theorem wb_tb (n : Nat) : (lN n).toBitVec = BitVec.ofNat 64 n := rfl
theorem wb_inj {a b : Int64} (h : a.toBitVec = b.toBitVec) : a = b := Int64.toBitVec_inj.mp h
theorem wb_tn {n : Nat} (h : n < 2 ^ 64) : (lN n).toBitVec.toNat = n := by rw [wb_tb, BitVec.toNat_ofNat, Nat.mod_eq_of_lt h]
theorem wb_of (x : Int64) : ∃ n, n < 2 ^ 64 ∧ x = lN n := ⟨x.toBitVec.toNat, x.toBitVec.isLt, wb_inj (by rw [wb_tb]; simp)⟩
theorem wb_of32 (x : Int32) : ∃ n, n < 2 ^ 32 ∧ x = nI n := ⟨x.toBitVec.toNat, x.toBitVec.isLt, Int32.toBitVec_inj.mp (by show _ = BitVec.ofNat 32 _; simp)⟩
theorem wb_c : ∀ k, k < 64 → ((nI k).toInt64 &&& 63) = lN k := by decide +kernel
theorem wb_cu : ∀ k, k < 64 → ((nI k).toInt64.toUInt64 &&& Int64.toUInt64 63) = UInt64.ofNat k := by decide +kernel
theorem wb_sm : ∀ k, k < 64 → (BitVec.ofNat 64 k).smod 64 = BitVec.ofNat 64 k := by decide +kernel
theorem wb_pw {a b : Nat} (h : a ≤ b) : 2 ^ b = 2 ^ a * 2 ^ (b - a) := by rw [← Nat.pow_add]; congr 1; omega
theorem wb_lt2 {a b : Nat} (h : a < b) : 2 ^ a < 2 ^ b := Nat.pow_lt_pow_right (by decide) h
theorem wb_mod (n : Nat) : lN n = lN (n % 2 ^ 64) := wb_inj (by rw [wb_tb, wb_tb]; apply BitVec.eq_of_toNat_eq; rw [BitVec.toNat_ofNat, BitVec.toNat_ofNat, Nat.mod_mod])
theorem wb_shr {n k : Nat} (hn : n < 2 ^ 64) (hk : k < 64) : ((lN n).toUInt64 >>> ((nI k).toInt64.toUInt64 &&& Int64.toUInt64 63)).toInt64 = lN (n / 2 ^ k) := by
  rw [wb_cu k hk]
  apply wb_inj
  apply BitVec.eq_of_toNat_eq
  show ((lN n).toUInt64 >>> UInt64.ofNat k).toNat = (BitVec.ofNat 64 _).toNat
  have h1 : (UInt64.ofNat k).toNat = k := by
    show (BitVec.ofNat 64 k).toNat = k
    rw [BitVec.toNat_ofNat, Nat.mod_eq_of_lt (by omega)]
  have h2 : (lN n).toUInt64.toNat = n := wb_tn hn
  rw [UInt64.toNat_shiftRight, h1, h2, Nat.mod_eq_of_lt hk, Nat.shiftRight_eq_div_pow, BitVec.toNat_ofNat, Nat.mod_eq_of_lt (Nat.lt_of_le_of_lt (Nat.div_le_self _ _) hn)]
theorem wb_shl (n : Nat) {k : Nat} (hk : k < 64) : lN n <<< ((nI k).toInt64 &&& 63) = lN (n * 2 ^ k) := by
  rw [wb_c k hk]
  apply wb_inj
  rw [Int64.toBitVec_shiftLeft, wb_tb, wb_tb, wb_tb, wb_sm k hk]
  apply BitVec.eq_of_toNat_eq
  rw [BitVec.shiftLeft_eq', BitVec.toNat_shiftLeft, BitVec.toNat_ofNat, BitVec.toNat_ofNat, BitVec.toNat_ofNat, Nat.mod_eq_of_lt (show k < 2 ^ 64 by omega), Nat.shiftLeft_eq, Nat.mul_mod, Nat.mod_mod, ← Nat.mul_mod]
theorem wb_and {a b : Nat} (ha : a < 2 ^ 64) (hb : b < 2 ^ 64) : lN a &&& lN b = lN (a &&& b) := by
  apply wb_inj
  rw [Int64.toBitVec_and, wb_tb, wb_tb, wb_tb]
  apply BitVec.eq_of_toNat_eq
  rw [BitVec.toNat_and, BitVec.toNat_ofNat, BitVec.toNat_ofNat, BitVec.toNat_ofNat, Nat.mod_eq_of_lt ha, Nat.mod_eq_of_lt hb, Nat.mod_eq_of_lt (Nat.and_lt_two_pow _ hb)]
theorem wb_or {a b : Nat} (ha : a < 2 ^ 64) (hb : b < 2 ^ 64) : lN a ||| lN b = lN (a ||| b) := by
  apply wb_inj
  rw [Int64.toBitVec_or, wb_tb, wb_tb, wb_tb]
  apply BitVec.eq_of_toNat_eq
  rw [BitVec.toNat_or, BitVec.toNat_ofNat, BitVec.toNat_ofNat, BitVec.toNat_ofNat, Nat.mod_eq_of_lt ha, Nat.mod_eq_of_lt hb, Nat.mod_eq_of_lt (Nat.or_lt_two_pow ha hb)]
theorem wb_mask {n k : Nat} (hn : n < 2 ^ 64) (hk : k < 64) : lN n &&& lN (2 ^ k - 1) = lN (n % 2 ^ k) := by
  rw [wb_and hn (by have := wb_lt2 hk; omega), Nat.and_two_pow_sub_one_eq_mod]
theorem wb_a1 {n : Nat} (hn : n < 2 ^ 64) : lN n &&& 1 = lN (n % 2) := wb_mask (k := 1) hn (by decide)
theorem wb_bit {n k : Nat} (hn : n < 2 ^ 64) (hk : k < 64) : ((lN n).toUInt64 >>> ((nI k).toInt64.toUInt64 &&& Int64.toUInt64 63)).toInt64 &&& 1 = lN (n / 2 ^ k % 2) := by
  rw [wb_shr hn hk, wb_a1 (Nat.lt_of_le_of_lt (Nat.div_le_self _ _) hn)]
theorem lN_bv (n : Nat) : (lN n).toBitVec = BitVec.ofNat 64 n := rfl
theorem lN_nat {n : Nat} (h : n < 2 ^ 64) : (lN n).toBitVec.toNat = n := by rw [lN_bv, BitVec.toNat_ofNat]; exact Nat.mod_eq_of_lt h
theorem lN_xor (a b : Nat) : lN a ^^^ lN b = lN (a ^^^ b) := by
  apply Int64.toBitVec_inj.mp; rw [Int64.toBitVec_xor, lN_bv, lN_bv, lN_bv]; apply BitVec.eq_of_getLsbD_eq; intro i hi; simp [BitVec.getLsbD_ofNat, Nat.testBit_xor, hi]
theorem u_tn {n : Nat} (h : n < 2 ^ 64) : (UInt64.ofNat n).toNat = n := Nat.mod_eq_of_lt h
theorem g_or {k p a b : Nat} (hp : 2 ^ k = p) (ha : a < p) (h : b * p + a < 2 ^ 64) : lN (b * p) ||| lN a = lN (b * p + a) := by
  subst hp
  have h1 : b * 2 ^ k ||| a = b * 2 ^ k + a := by rw [← Nat.shiftLeft_eq, Nat.shiftLeft_add_eq_or_of_lt ha]
  have h3 : UInt64.ofNat (b * 2 ^ k) ||| UInt64.ofNat a = UInt64.ofNat (b * 2 ^ k + a) := UInt64.toNat_inj.mp (by rw [UInt64.toNat_or, u_tn (by omega), u_tn (by omega), u_tn h, h1])
  have h2 := congrArg UInt64.toInt64 h3
  exact h2
theorem g_or' {k p a b : Nat} (hp : 2 ^ k = p) (ha : a < p) (h : a + b * p < 2 ^ 64) : lN a ||| lN (b * p) = lN (a + b * p) := by
  rw [Int64.or_comm, g_or hp ha (by omega), Nat.add_comm]
theorem g_ushr {a k p : Nat} {y : UInt64} (hy : y = UInt64.ofNat k) (hk : k < 64) (hp : 2 ^ k = p) (ha : a < 2 ^ 64) : ((lN a).toUInt64 >>> y).toInt64 = lN (a / p) := by
  subst hy hp
  have h : UInt64.ofNat a >>> UInt64.ofNat k = UInt64.ofNat (a / 2 ^ k) := UInt64.toNat_inj.mp (by rw [UInt64.toNat_shiftRight, u_tn ha, u_tn (by omega), u_tn (Nat.lt_of_le_of_lt (Nat.div_le_self _ _) ha), Nat.mod_eq_of_lt hk, Nat.shiftRight_eq_div_pow])
  have h2 := congrArg UInt64.toInt64 h
  exact h2
end
section
/-! pure words: parities, octets, checks, rows of bits -/
theorem nx_or (a b : Nat) : nI a ||| nI b = nI (a ||| b) := by
  apply Int32.toBitVec_inj.1
  show BitVec.ofNat 32 a ||| BitVec.ofNat 32 b = BitVec.ofNat 32 (a ||| b)
  apply BitVec.eq_of_getLsbD_eq
  intro i hi
  simp [hi]
def popN : Nat → Nat → Nat
  | 0, _ => 0
  | k + 1, v => v % 2 + popN k (v / 2)
def octB (b : Nat) : Nat := b + 256 * (1 - popN 8 b % 2)
def octN (B : Nat) : Nat → Nat
  | 0 => 0
  | n + 1 => octN B n + octB (B / 2 ^ (8 * n) % 256) * 2 ^ (9 * n)
def crcY (z : Nat) : Nat := (z ^^^ z * 16) % 256
def crcS (x b : Nat) : Nat := (((x / 256 ^^^ crcY (b ^^^ x % 256) * 256) ^^^ crcY (b ^^^ x % 256) * 8) ^^^ crcY (b ^^^ x % 256) / 16) % 65536
def valN (rb : Nat → Nat) (size fm : Nat) : Nat → Nat
  | 0 => 0
  | n + 1 => valN rb size fm n + (if fm + n < size then rb (fm + n) else 0) * 2 ^ n
def crcN (rb : Nat → Nat) (size : Nat) : Nat → Nat
  | 0 => 25443
  | n + 1 => crcS (crcN rb size n) (valN rb size (9 * n) 8)
def begN (rb : Nat → Nat) (size : Nat) : Nat → Bool
  | 0 => true
  | n + 1 => begN rb size n && decide (popN 9 (valN rb size (9 * n) 9) % 2 = 1)
/-- n bits of v behind the first 'size' -/
def apB (rb : Nat → Nat) (size : Nat) (v : Int32) (n : Nat) : Nat → Nat := fun j => if size ≤ j ∧ j < size + n then bitI v (j - size) else rb j
theorem apB_0 (rb : Nat → Nat) (size : Nat) (v : Int32) : apB rb size v 0 = rb := by
  funext j
  unfold apB
  rw [if_neg (by omega)]
theorem apB_s (rb : Nat → Nat) (size : Nat) (v : Int32) (i : Nat) : setN (apB rb size v i) (size + i) (bitI v i) = apB rb size v (i + 1) := by
  funext j
  unfold setN apB
  by_cases h : j = size + i
  · subst h
    rw [if_pos rfl, if_pos (by omega), Nat.add_sub_cancel_left]
  · rw [if_neg h]
    by_cases h2 : size ≤ j ∧ j < size + i
    · rw [if_pos h2, if_pos (by omega)]
    · rw [if_neg h2, if_neg (by omega)]
theorem apB_01 {rb : Nat → Nat} (h : ∀ j, rb j < 2) (size : Nat) (v : Int32) (n : Nat) : ∀ j, apB rb size v n j < 2 := by
  intro j
  unfold apB
  split
  · exact bitI_lt _ _
  · exact h j
theorem valN_lt {rb : Nat → Nat} (h : ∀ j, rb j < 2) (size fm : Nat) : ∀ n, valN rb size fm n < 2 ^ n
  | 0 => by simp [valN]
  | n + 1 => by
    have ih := valN_lt h size fm n
    have hb : (if fm + n < size then rb (fm + n) else 0) ≤ 1 := by
      split
      · have := h (fm + n); omega
      · exact Nat.zero_le _
    have h2 : (if fm + n < size then rb (fm + n) else 0) * 2 ^ n ≤ 1 * 2 ^ n := Nat.mul_le_mul_right _ hb
    simp only [valN, Nat.pow_succ]
    omega
theorem valN_stop {rb : Nat → Nat} {size fm i : Nat} (h : size ≤ fm + i) : ∀ n, i ≤ n → valN rb size fm n = valN rb size fm i
  | 0, hi => by rw [show i = 0 by omega]
  | n + 1, hi => by
    by_cases e : i = n + 1
    · rw [e]
    · have := valN_stop (rb := rb) h n (by omega)
      simp only [valN]
      rw [if_neg (by omega), this]
      omega
theorem crcS_lt (x b : Nat) : crcS x b < 65536 := Nat.mod_lt _ (by decide)
theorem crcN_lt (rb : Nat → Nat) (size : Nat) : ∀ n, crcN rb size n < 65536
  | 0 => by simp [crcN]
  | n + 1 => crcS_lt _ _
theorem octB_lt {b : Nat} (h : b < 256) : octB b < 512 := by unfold octB; omega
theorem octN_lt (B : Nat) : ∀ n, octN B n < 2 ^ (9 * n)
  | 0 => by simp [octN]
  | n + 1 => by
    have ih := octN_lt B n
    have hb : octB (B / 2 ^ (8 * n) % 256) < 512 := octB_lt (Nat.mod_lt _ (by decide))
    have h2 : octB (B / 2 ^ (8 * n) % 256) * 2 ^ (9 * n) ≤ 511 * 2 ^ (9 * n) := Nat.mul_le_mul_right _ (by omega)
    have h3 : 2 ^ (9 * (n + 1)) = 512 * 2 ^ (9 * n) := by rw [Nat.mul_add, Nat.pow_add, Nat.mul_comm]
    simp only [octN]
    omega
theorem z_scnt : ∀ i, i < 32 → ((nI i &&& 31).toBitVec.smod 32).toNat = i := by decide +kernel
/-- one bit more -/
theorem z_or {v b i : Nat} (hv : v < 2 ^ i) (hb : b < 2) (hi : i < 31) : nI v ||| (nI b <<< (nI i &&& 31)) = nI (v + b * 2 ^ i) := by
  have h2 : (2 : Nat) ^ i ≤ 2 ^ 30 := Nat.pow_le_pow_right (by decide) (by omega)
  have h3 : b * 2 ^ i ≤ 1 * 2 ^ i := Nat.mul_le_mul_right _ (by omega)
  rw [pk_shlN _ i (z_scnt i (by omega)) (by omega), nx_or]
  congr 1
  rw [Nat.or_comm, ← Nat.shiftLeft_eq, ← Nat.shiftLeft_add_eq_or_of_lt hv, Nat.add_comm]
theorem z_cx {x b : Nat} (hx : x < 65536) : nI b ^^^ (nI x &&& nI 255) = nI (b ^^^ x % 256) := by
  rw [pk_andN (by omega) 8 (by decide), nx_xor]
theorem z_cy {z : Nat} (hz : z < 256) : (nI z ^^^ (nI z <<< (nI 4 &&& 31))) &&& nI 255 = nI (crcY z) := by
  rw [pk_shlN _ 4 (by decide) (by omega), nx_xor, pk_andN ?_ 8 (by decide)]
  · rfl
  · exact Nat.xor_lt_two_pow (n := 32) (by omega) (by omega)
theorem crcY_lt (z : Nat) : crcY z < 256 := Nat.mod_lt _ (by decide)
theorem z_cf {x y : Nat} (hx : x < 65536) (hy : y < 256) : (((((nI x).toUInt32 >>> ((nI 8).toUInt32 &&& Int32.toUInt32 31)).toInt32 ^^^ (nI y <<< (nI 8 &&& 31))) ^^^ (nI y <<< (nI 3 &&& 31))) ^^^ ((nI y).toUInt32 >>> ((nI 4).toUInt32 &&& Int32.toUInt32 31)).toInt32) &&& nI 65535 = nI ((((x / 256 ^^^ y * 256) ^^^ y * 8) ^^^ y / 16) % 65536) := by
  rw [pk_ushrN (by omega) _ 8 (by decide), pk_shlN _ 8 (by decide) (by omega), pk_shlN _ 3 (by decide) (by omega), pk_ushrN (by omega) _ 4 (by decide), nx_xor, nx_xor, nx_xor, pk_andN ?_ 16 (by decide)]
  exact Nat.xor_lt_two_pow (n := 32) (Nat.xor_lt_two_pow (n := 32) (Nat.xor_lt_two_pow (n := 32) (by omega) (by omega)) (by omega)) (by omega)
/-- Integer.bitCount, by its steps -/
def bc1 (x : Int32) : Int32 := x - ((x.toUInt32 >>> ((nI 1).toUInt32 &&& Int32.toUInt32 31)).toInt32 &&& nI 1431655765)
def bc2 (x : Int32) : Int32 := (x &&& nI 858993459) + ((x.toUInt32 >>> ((nI 2).toUInt32 &&& Int32.toUInt32 31)).toInt32 &&& nI 858993459)
def bc3 (x : Int32) : Int32 := (x + (x.toUInt32 >>> ((nI 4).toUInt32 &&& Int32.toUInt32 31)).toInt32) &&& nI 252645135
def bc4 (x : Int32) : Int32 := x + (x.toUInt32 >>> ((nI 8).toUInt32 &&& Int32.toUInt32 31)).toInt32
def bc5 (x : Int32) : Int32 := x + (x.toUInt32 >>> ((nI 16).toUInt32 &&& Int32.toUInt32 31)).toInt32
theorem z_bc : ∀ v, v < 512 → bc5 (bc4 (bc3 (bc2 (bc1 (nI v))))) &&& nI 63 = nI (popN 9 v) := by decide +kernel
/-- Long.bitCount, by its steps -/
def bl1 (x : Int64) : Int64 := x - ((x.toUInt64 >>> ((nI 1).toInt64.toUInt64 &&& Int64.toUInt64 63)).toInt64 &&& lN 6148914691236517205)
def bl2 (x : Int64) : Int64 := (x &&& lN 3689348814741910323) + ((x.toUInt64 >>> ((nI 2).toInt64.toUInt64 &&& Int64.toUInt64 63)).toInt64 &&& lN 3689348814741910323)
def bl3 (x : Int64) : Int64 := (x + (x.toUInt64 >>> ((nI 4).toInt64.toUInt64 &&& Int64.toUInt64 63)).toInt64) &&& lN 1085102592571150095
def bl4 (x : Int64) : Int64 := x + (x.toUInt64 >>> ((nI 8).toInt64.toUInt64 &&& Int64.toUInt64 63)).toInt64
def bl5 (x : Int64) : Int64 := x + (x.toUInt64 >>> ((nI 16).toInt64.toUInt64 &&& Int64.toUInt64 63)).toInt64
def bl6 (x : Int64) : Int64 := x + (x.toUInt64 >>> ((nI 32).toInt64.toUInt64 &&& Int64.toUInt64 63)).toInt64
theorem z_bl : ∀ v, v < 256 → (bl6 (bl5 (bl4 (bl3 (bl2 (bl1 (lN v))))))).toInt32 &&& nI 127 = nI (popN 8 v) := by decide +kernel
theorem popN_le : ∀ k v, popN k v ≤ k
  | 0, _ => Nat.le_refl _
  | k + 1, v => by
    have := popN_le k (v / 2)
    simp only [popN]
    omega
def crcB (B : Nat) : Nat → Nat
  | 0 => 25443
  | n + 1 => crcS (crcB B n) (B / 2 ^ (8 * n) % 256)
theorem crcB_lt (B : Nat) : ∀ n, crcB B n < 65536
  | 0 => by simp [crcB]
  | n + 1 => crcS_lt _ _
theorem begN_false {rb : Nat → Nat} {size i : Nat} (h : begN rb size i = false) : ∀ n, i ≤ n → begN rb size n = false
  | 0, hi => by rw [show i = 0 by omega] at h; exact h
  | n + 1, hi => by
    by_cases e : i = n + 1
    · rw [← e]; exact h
    · simp only [begN, begN_false h n (by omega), Bool.false_and]
/-- the lowest byte of an int -/
def byI (v : Int32) : Nat := v.toBitVec.toNat % 256
theorem byI_lt (v : Int32) : byI v < 256 := Nat.mod_lt _ (by decide)
theorem byI_n {n : Nat} (h : n < 2 ^ 31) : byI (nI n) = n % 256 := by
  unfold byI
  rw [pk_tn (by omega)]
theorem z_i2l (v : Int32) : ∃ B, B < 2 ^ 64 ∧ v.toInt64 = lN B ∧ B % 256 = byI v := by
  refine ⟨v.toInt64.toBitVec.toNat, v.toInt64.toBitVec.isLt, wb_inj (by rw [wb_tb]; simp), ?_⟩
  have h1 : v.toInt64.toBitVec = v.toBitVec.signExtend 64 := rfl
  rw [h1]
  unfold byI
  have h2 : (BitVec.setWidth 8 (v.toBitVec.signExtend 64)).toNat = (BitVec.setWidth 8 v.toBitVec).toNat := by
    congr 1
    apply BitVec.eq_of_getLsbD_eq
    intro i hi
    simp only [BitVec.getLsbD_setWidth, BitVec.getLsbD_signExtend]
    simp [hi, show i < 64 by omega, show i < 32 by omega]
  simpa [BitVec.toNat_setWidth] using h2
end
section
theorem wi_oi : Cond.instanceMethod objectInit ∈ tb := tb_of (List.mem_of_getElem? (i := 71) rfl) rfl
theorem wi_oc : Cond.code objectInit ⟨#[0xb1]⟩ 1 none ∈ tb := tb_of (List.mem_of_getElem? (i := 72) rfl) rfl
theorem ol_X10_1 : Cond.methodLink RX10 1 objectInit ∈ tb := tb_of (List.mem_of_getElem? (i := 70) rfl) rfl
theorem ol_X8_3 : Cond.methodLink RX8 3 objectInit ∈ tb := tb_of (List.mem_of_getElem? (i := 78) rfl) rfl
theorem ol_X2_3 : Cond.methodLink RX2 3 objectInit ∈ tb := tb_of (List.mem_of_getElem? (i := 94) rfl) rfl
theorem ol_X1_1 : Cond.methodLink RX1 1 objectInit ∈ tb := tb_of (List.mem_of_getElem? (i := 111) rfl) rfl
theorem ol_Jxa1e45_1 : Cond.methodLink RJxa1e45 1 objectInit ∈ tb := tb_of (List.mem_of_getElem? (i := 123) rfl) rfl
theorem ol_X4_3 : Cond.methodLink RX4 3 objectInit ∈ tb := tb_of (List.mem_of_getElem? (i := 143) rfl) rfl
theorem ol_X6_3 : Cond.methodLink RX6 3 objectInit ∈ tb := tb_of (List.mem_of_getElem? (i := 186) rfl) rfl
theorem ol_X9_3 : Cond.methodLink RX9 3 objectInit ∈ tb := tb_of (List.mem_of_getElem? (i := 236) rfl) rfl
set_option maxRecDepth 20000 in
theorem ol_X11_1 : Cond.methodLink RX11 1 objectInit ∈ tb := tb_of (List.mem_of_getElem? (i := 673) rfl) rfl
section HPO
variable {p : Program} {l : Launch} {e : Env} {R : Room} {s : State} {m : MethodId} {args : Array Value} {below : List Frame} {meth : Method} {c : Code} {H : Heap} {locs : List Loc} {cells slots : Nat} {Q : State → Prop}
variable {cc : ByteArray} {pc : Nat} {ls : Array Slot} {rest : List Value} {X : hp_X} {a nL index : Nat} {own : String}
theorem hp_obj (hx : p.tables.exec = Jvm.exec) (hb : c.code = cc) (hml : c.maxLocals = nL) (hown : s.vm.findClass own = some m.cls) (hS : KS X s) (hk : Cond.methodLink own index objectInit ∈ tb) (hsz : ls.size = nL) (hdg : decode cc pc = .ok (.invokespecial index, 3)) (hfr : 1 ≤ R.frames) (hlo : (rest.map fun v => v.category).sum ≤ 8) (hlo2 : 20 ≤ R.locals)
    (kk : W p l e R s m args below meth c H locs cells slots Q (F0 m (pc + 3) ls rest)) : W p l e R s m args below meth c H locs cells slots Q (F0 m pc ls (.ref a :: rest)) := by
  refine W.objInit hx hb hown (hS.1 _ hk _) (hS.1 _ wi_oi _) (hS.1 _ wi_oc _) rfl (by rw [hml]; exact hsz) rfl hdg hfr ?_ kk
  have h1 := lv_room (m := m) (pc := pc) (ls := ls) (rest := rest) hlo
  exact Nat.le_trans (Nat.add_le_add_right h1 12) hlo2
end HPO
def sN (own : String) (index ci N : Nat) (fs : List Value) : Prop :=
  ∃ (C : String) (T : u_T) (ty : Nat → FieldType), cls[ci]? = some (C, T, N) ∧ (∀ w ∈ u_ws C T N, w ∈ tb) ∧ (∀ k, k < N → parseFieldDescriptor (T k).2.2.1 = some (ty k)) ∧ Cond.classLink own index C ∈ tb ∧ Cond.instantiable C N ∈ tb ∧ Cond.initialized C ∈ tb ∧ ∀ j, j < N → defaultValue (ty j) = vp_V fs j
theorem sN.use {own : String} {index ci N : Nat} {fs : List Value} (h : sN own index ci N fs) {X : hp_X} {s : State} (hS : KS X s) {args : Array Value} : hp_N cls s args own index ci N fs := by
  obtain ⟨C, T, ty, h1, h2, h3, h4, h5, h6, h7⟩ := h
  exact ⟨C, T, ty, h1, fun w hw => hS.1 w (h2 w hw) args, h3, hS.1 _ h4 args, hS.1 _ h5 args, hS.1 _ h6 args, h7⟩
theorem N_L_7 : sN RL 7 6 4 [.null, .null, .null, .null] := ⟨RX10, TX10, tyX10, rfl, lay_X10, tyX10_ok, NL_L_7, NI_X10.1, NI_X10.2, by decide +kernel⟩
theorem N_X10_7 : sN RX10 7 4 2 [.null, .int (nI 0)] := ⟨RX8, TX8, tyX8, rfl, lay_X8, tyX8_ok, NL_X10_7, NI_X8.1, NI_X8.2, by decide +kernel⟩
theorem N_X10_18 : sN RX10 18 1 3 [.long (lN 0), .long (lN 0), .int (nI 0)] := ⟨RX2, TX2, tyX2, rfl, lay_X2, tyX2_ok, NL_X10_18, NI_X2.1, NI_X2.2, by decide +kernel⟩
theorem N_X10_25 : sN RX10 25 0 4 [.null, .null, .int (nB false), .int (nI 0)] := ⟨RX1, TX1, tyX1, rfl, lay_X1, tyX1_ok, NL_X10_25, NI_X1.1, NI_X1.2, by decide +kernel⟩
theorem N_X1_7 : sN RX1 7 8 3 [.int (nI 0), .null, .int (nI 0)] := ⟨RJx4a65c, TJx4a65c, tyJx4a65c, rfl, lay_Jx4a65c, tyJx4a65c_ok, NL_X1_7, NI_Jx4a65c.1, NI_Jx4a65c.2, by decide +kernel⟩
theorem N_X1_16 : sN RX1 16 2 5 [.null, .int (nI 0), .int (nI 0), .long (lN 0), .int (nI 0)] := ⟨RX4, TX4, tyX4, rfl, lay_X4, tyX4_ok, NL_X1_16, NI_X4.1, NI_X4.2, by decide +kernel⟩
theorem N_X10_32 : sN RX10 32 3 7 [.null, .null, .null, .null, .int (nI 0), .long (lN 0), .int (nI 0)] := ⟨RX6, TX6, tyX6, rfl, lay_X6, tyX6_ok, NL_X10_32, NI_X6.1, NI_X6.2, by decide +kernel⟩
theorem N_X6_9 : sN RX6 9 4 2 [.null, .int (nI 0)] := ⟨RX8, TX8, tyX8, rfl, lay_X8, tyX8_ok, NL_X6_9, NI_X8.1, NI_X8.2, by decide +kernel⟩
theorem N_X6_20 : sN RX6 20 1 3 [.long (lN 0), .long (lN 0), .int (nI 0)] := ⟨RX2, TX2, tyX2, rfl, lay_X2, tyX2_ok, NL_X6_20, NI_X2.1, NI_X2.2, by decide +kernel⟩
theorem N_X10_39 : sN RX10 39 5 5 [.int (nI 0), .null, .int (nB false), .int (nI 0), .int (nI 0)] := ⟨RX9, TX9, tyX9, rfl, lay_X9, tyX9_ok, NL_X10_39, NI_X9.1, NI_X9.2, by decide +kernel⟩
theorem N_X1_35 : sN RX1 35 5 5 [.int (nI 0), .null, .int (nB false), .int (nI 0), .int (nI 0)] := ⟨RX9, TX9, tyX9, rfl, lay_X9, tyX9_ok, NL_X1_35, NI_X9.1, NI_X9.2, by decide +kernel⟩
theorem N_L_10 : sN RL 10 7 29 [.int (nI 0), .null, .null, .null, .null, .null, .null, .int (nB false), .int (nI 0), .null, .int (nI 0), .null, .null, .int (nI 0), .int (nI 0), .int (nI 0), .null, .int (nI 0), .null, .int (nI 0), .null, .int (nI 0), .null, .int (nI 0), .int (nI 0), .null, .null, .int (nI 0), .null] := ⟨RX11, TX11, tyX11, rfl, lay_X11, tyX11_ok, NL_L_10, NI_X11.1, NI_X11.2, by decide +kernel⟩
end
section
/-! ends of contracts: the next address, the answer, the world -/
def po_i (NX : Nat) (E : Int32) (P : hp_M → Prop) : Int32 → hp_M → Nat → Prop := fun r μ nx => nx = NX ∧ r = E ∧ P μ
def po_l (NX : Nat) (E : Int64) (P : hp_M → Prop) : Int64 → hp_M → Nat → Prop := fun r μ nx => nx = NX ∧ r = E ∧ P μ
def po_r (NX : Nat) (E : Nat) (P : hp_M → Prop) : Nat → hp_M → Nat → Prop := fun r μ nx => nx = NX ∧ r = E ∧ P μ
def po_v (NX : Nat) (P : hp_M → Prop) : hp_M → Nat → Prop := fun μ nx => nx = NX ∧ P μ
section HPK
variable {p : Program} {l : Launch} {e : Env} {R : Room} {s : State} {m : MethodId} {args : Array Value} {below : List Frame} {meth : Method} {c : Code} {H : Heap} {locs : List Loc} {cells slots : Nat} {Q : State → Prop}
variable {pc : Nat} {ls : Array Slot} {rest st0 : List Value} {X : hp_X} {nx NX mc ms : Nat} {μ : hp_M} {a : Array Value} {P : hp_M → Prop}
theorem hp_kim {E : Int32} (hr : va_Run p l e R s m args below meth c H locs cells slots mc ms (F0 m pc ls st0) rest (hq_i X (po_i NX E P) a) (hp_A X)) (hH : hp_w X cls μ nx H locs)
    (kk : ∀ (μ1 : hp_M) (H1 : Heap) (locs1 : List Loc), P μ1 → hp_w X cls μ1 NX H1 locs1 → W p l e R s m args below meth c H1 locs1 (cells + mc) (slots + ms) Q (F0 m (pc + 3) ls (.int E :: rest))) : W p l e R s m args below meth c H locs cells slots Q (F0 m pc ls st0) :=
  hp_ki hr hH (fun r μ1 nx1 H1 locs1 hp hw => by obtain ⟨rfl, rfl, h⟩ := hp; exact kk μ1 H1 locs1 h hw)
theorem hp_klm {E : Int64} (hr : va_Run p l e R s m args below meth c H locs cells slots mc ms (F0 m pc ls st0) rest (hq_l X (po_l NX E P) a) (hp_A X)) (hH : hp_w X cls μ nx H locs)
    (kk : ∀ (μ1 : hp_M) (H1 : Heap) (locs1 : List Loc), P μ1 → hp_w X cls μ1 NX H1 locs1 → W p l e R s m args below meth c H1 locs1 (cells + mc) (slots + ms) Q (F0 m (pc + 3) ls (.long E :: rest))) : W p l e R s m args below meth c H locs cells slots Q (F0 m pc ls st0) :=
  hp_kl hr hH (fun r μ1 nx1 H1 locs1 hp hw => by obtain ⟨rfl, rfl, h⟩ := hp; exact kk μ1 H1 locs1 h hw)
theorem hp_krm {E : Nat} (hr : va_Run p l e R s m args below meth c H locs cells slots mc ms (F0 m pc ls st0) rest (hq_r X (po_r NX E P) a) (hp_A X)) (hH : hp_w X cls μ nx H locs)
    (kk : ∀ (μ1 : hp_M) (H1 : Heap) (locs1 : List Loc), P μ1 → hp_w X cls μ1 NX H1 locs1 → W p l e R s m args below meth c H1 locs1 (cells + mc) (slots + ms) Q (F0 m (pc + 3) ls (.ref E :: rest))) : W p l e R s m args below meth c H locs cells slots Q (F0 m pc ls st0) :=
  hp_kr hr hH (fun r μ1 nx1 H1 locs1 hp hw => by obtain ⟨rfl, rfl, h⟩ := hp; exact kk μ1 H1 locs1 h hw)
theorem hp_kvm (hr : va_Run p l e R s m args below meth c H locs cells slots mc ms (F0 m pc ls st0) rest (hq_v X (po_v NX P) a) (hp_A X)) (hH : hp_w X cls μ nx H locs)
    (kk : ∀ (μ1 : hp_M) (H1 : Heap) (locs1 : List Loc), P μ1 → hp_w X cls μ1 NX H1 locs1 → W p l e R s m args below meth c H1 locs1 (cells + mc) (slots + ms) Q (F0 m (pc + 3) ls rest)) : W p l e R s m args below meth c H locs cells slots Q (F0 m pc ls st0) :=
  hp_kv hr hH (fun μ1 nx1 H1 locs1 hp hw => by obtain ⟨rfl, h⟩ := hp; exact kk μ1 H1 locs1 h hw)
theorem hp_kip {E : Int32} (hr : va_Run p l e R s m args below meth c H locs cells slots mc ms (F0 m pc ls st0) rest (hq_i X (po_i NX E (fun z => z = μ)) a) (hp_A X)) (hH : hp_w X cls μ nx H locs)
    (kk : ∀ (H1 : Heap) (locs1 : List Loc), hp_w X cls μ NX H1 locs1 → W p l e R s m args below meth c H1 locs1 (cells + mc) (slots + ms) Q (F0 m (pc + 3) ls (.int E :: rest))) : W p l e R s m args below meth c H locs cells slots Q (F0 m pc ls st0) :=
  hp_kim hr hH (fun μ1 H1 locs1 h hw => by cases h; exact kk H1 locs1 hw)
theorem hp_klp {E : Int64} (hr : va_Run p l e R s m args below meth c H locs cells slots mc ms (F0 m pc ls st0) rest (hq_l X (po_l NX E (fun z => z = μ)) a) (hp_A X)) (hH : hp_w X cls μ nx H locs)
    (kk : ∀ (H1 : Heap) (locs1 : List Loc), hp_w X cls μ NX H1 locs1 → W p l e R s m args below meth c H1 locs1 (cells + mc) (slots + ms) Q (F0 m (pc + 3) ls (.long E :: rest))) : W p l e R s m args below meth c H locs cells slots Q (F0 m pc ls st0) :=
  hp_klm hr hH (fun μ1 H1 locs1 h hw => by cases h; exact kk H1 locs1 hw)
theorem hp_krp {E : Nat} (hr : va_Run p l e R s m args below meth c H locs cells slots mc ms (F0 m pc ls st0) rest (hq_r X (po_r NX E (fun z => z = μ)) a) (hp_A X)) (hH : hp_w X cls μ nx H locs)
    (kk : ∀ (H1 : Heap) (locs1 : List Loc), hp_w X cls μ NX H1 locs1 → W p l e R s m args below meth c H1 locs1 (cells + mc) (slots + ms) Q (F0 m (pc + 3) ls (.ref E :: rest))) : W p l e R s m args below meth c H locs cells slots Q (F0 m pc ls st0) :=
  hp_krm hr hH (fun μ1 H1 locs1 h hw => by cases h; exact kk H1 locs1 hw)
end HPK
end
section
set_option maxHeartbeats 4000000 in
set_option maxRecDepth 100000 in
theorem c_J6_bitCount_0f7a4 (l : Launch) (X : hp_X) {μ : hp_M} {nx : Nat} {v : Nat} (hv : v < 512)  : Ct l X yJ6_bitCount_0f7a4 cJ6_bitCount_0f7a4 1 (some FieldType.int) 0 0 0 0 [.int (nI v)] μ nx (hq_i X (po_i nx (nI (popN 9 v)) (fun z => z = μ))) := by
  refine hp_met (by decide) (Nat.le_of_ble_eq_true rfl) ?_
  intro p e s m below meth c ls hx hb hml hr hlocks hown hin hS hH hl
  have hl : lv_has ls 1 [(0, .int (nI v))] := hl
  refine lv_iload_n hx hb dJ6_bitCount_0f7a4_0 rfl (lv_at hl 0 rfl) ?_
  refine lv_iload_n hx hb dJ6_bitCount_0f7a4_1 rfl (lv_at hl 0 rfl) ?_
  refine lv_iconst (v := nI 1) hx hb dJ6_bitCount_0f7a4_2 (by decide) ?_
  refine lv_iushr hx hb dJ6_bitCount_0f7a4_3 rfl ?_
  refine lv_ldcw hx hb hown (hS.1 _ wi_434 _) dJ6_bitCount_0f7a4_4 ?_
  refine hp_eqi (z := nI 1431655765) (by decide) ?_
  refine lv_iand hx hb dJ6_bitCount_0f7a4_7 ?_
  refine lv_isub hx hb dJ6_bitCount_0f7a4_8 ?_
  refine hp_eqi (z := bc1 (nI v)) (rfl) ?_
  refine lv_istore_n (lv' := [(0, .int (bc1 (nI v)))]) hx hb dJ6_bitCount_0f7a4_9 rfl hl (by decide) rfl (fun ls hl => ?_)
  refine lv_iload_n hx hb dJ6_bitCount_0f7a4_10 rfl (lv_at hl 0 rfl) ?_
  refine lv_ldcw hx hb hown (hS.1 _ wi_435 _) dJ6_bitCount_0f7a4_11 ?_
  refine hp_eqi (z := nI 858993459) (by decide) ?_
  refine lv_iand hx hb dJ6_bitCount_0f7a4_14 ?_
  refine lv_iload_n hx hb dJ6_bitCount_0f7a4_15 rfl (lv_at hl 0 rfl) ?_
  refine lv_iconst (v := nI 2) hx hb dJ6_bitCount_0f7a4_16 (by decide) ?_
  refine lv_iushr hx hb dJ6_bitCount_0f7a4_17 rfl ?_
  refine lv_ldcw hx hb hown (hS.1 _ wi_435 _) dJ6_bitCount_0f7a4_18 ?_
  refine hp_eqi (z := nI 858993459) (by decide) ?_
  refine lv_iand hx hb dJ6_bitCount_0f7a4_21 ?_
  refine lv_iadd hx hb dJ6_bitCount_0f7a4_22 ?_
  refine hp_eqi (z := bc2 (bc1 (nI v))) (rfl) ?_
  refine lv_istore_n (lv' := [(0, .int (bc2 (bc1 (nI v))))]) hx hb dJ6_bitCount_0f7a4_23 rfl hl (by decide) rfl (fun ls hl => ?_)
  refine lv_iload_n hx hb dJ6_bitCount_0f7a4_24 rfl (lv_at hl 0 rfl) ?_
  refine lv_iload_n hx hb dJ6_bitCount_0f7a4_25 rfl (lv_at hl 0 rfl) ?_
  refine lv_iconst (v := nI 4) hx hb dJ6_bitCount_0f7a4_26 (by decide) ?_
  refine lv_iushr hx hb dJ6_bitCount_0f7a4_27 rfl ?_
  refine lv_iadd hx hb dJ6_bitCount_0f7a4_28 ?_
  refine lv_ldcw hx hb hown (hS.1 _ wi_436 _) dJ6_bitCount_0f7a4_29 ?_
  refine hp_eqi (z := nI 252645135) (by decide) ?_
  refine lv_iand hx hb dJ6_bitCount_0f7a4_32 ?_
  refine hp_eqi (z := bc3 (bc2 (bc1 (nI v)))) (rfl) ?_
  refine lv_istore_n (lv' := [(0, .int (bc3 (bc2 (bc1 (nI v)))))]) hx hb dJ6_bitCount_0f7a4_33 rfl hl (by decide) rfl (fun ls hl => ?_)
  refine lv_iload_n hx hb dJ6_bitCount_0f7a4_34 rfl (lv_at hl 0 rfl) ?_
  refine lv_iload_n hx hb dJ6_bitCount_0f7a4_35 rfl (lv_at hl 0 rfl) ?_
  refine lv_bipush (v := nI 8) hx hb dJ6_bitCount_0f7a4_36 (by decide) ?_
  refine lv_iushr hx hb dJ6_bitCount_0f7a4_38 rfl ?_
  refine lv_iadd hx hb dJ6_bitCount_0f7a4_39 ?_
  refine hp_eqi (z := bc4 (bc3 (bc2 (bc1 (nI v))))) (rfl) ?_
  refine lv_istore_n (lv' := [(0, .int (bc4 (bc3 (bc2 (bc1 (nI v))))))]) hx hb dJ6_bitCount_0f7a4_40 rfl hl (by decide) rfl (fun ls hl => ?_)
  refine lv_iload_n hx hb dJ6_bitCount_0f7a4_41 rfl (lv_at hl 0 rfl) ?_
  refine lv_iload_n hx hb dJ6_bitCount_0f7a4_42 rfl (lv_at hl 0 rfl) ?_
  refine lv_bipush (v := nI 16) hx hb dJ6_bitCount_0f7a4_43 (by decide) ?_
  refine lv_iushr hx hb dJ6_bitCount_0f7a4_45 rfl ?_
  refine lv_iadd hx hb dJ6_bitCount_0f7a4_46 ?_
  refine hp_eqi (z := bc5 (bc4 (bc3 (bc2 (bc1 (nI v)))))) (rfl) ?_
  refine lv_istore_n (lv' := [(0, .int (bc5 (bc4 (bc3 (bc2 (bc1 (nI v)))))))]) hx hb dJ6_bitCount_0f7a4_47 rfl hl (by decide) rfl (fun ls hl => ?_)
  refine lv_iload_n hx hb dJ6_bitCount_0f7a4_48 rfl (lv_at hl 0 rfl) ?_
  refine lv_bipush (v := nI 63) hx hb dJ6_bitCount_0f7a4_49 (by decide) ?_
  refine lv_iand hx hb dJ6_bitCount_0f7a4_51 ?_
  refine hp_eqi (z := nI (popN 9 v)) (z_bc v hv) ?_
  exact hp_ri hx hb hr hlocks hS hH (⟨rfl, rfl, rfl⟩) dJ6_bitCount_0f7a4_52

set_option maxHeartbeats 4000000 in
set_option maxRecDepth 100000 in
theorem c_J13_bitCount_95d88 (l : Launch) (X : hp_X) {μ : hp_M} {nx : Nat} {v : Nat} (hv : v < 256)  : Ct l X yJ13_bitCount_95d88 cJ13_bitCount_95d88 2 (some FieldType.int) 0 0 0 0 [.long (lN v)] μ nx (hq_i X (po_i nx (nI (popN 8 v)) (fun z => z = μ))) := by
  refine hp_met (by decide) (Nat.le_of_ble_eq_true rfl) ?_
  intro p e s m below meth c ls hx hb hml hr hlocks hown hin hS hH hl
  have hl : lv_has ls 2 [(0, .long (lN v))] := hl
  refine lv_lload_n hx hb dJ13_bitCount_95d88_0 rfl (lv_at hl 0 rfl) ?_
  refine lv_lload_n hx hb dJ13_bitCount_95d88_1 rfl (lv_at hl 0 rfl) ?_
  refine lv_iconst (v := nI 1) hx hb dJ13_bitCount_95d88_2 (by decide) ?_
  refine lv_lushr hx hb dJ13_bitCount_95d88_3 rfl ?_
  refine lv_ldc2 hx hb hown (hS.1 _ wi_415 _) dJ13_bitCount_95d88_4 ?_
  refine hp_eql (z := lN 6148914691236517205) (by decide) ?_
  refine lv_land hx hb dJ13_bitCount_95d88_7 ?_
  refine lv_lsub hx hb dJ13_bitCount_95d88_8 ?_
  refine hp_eql (z := bl1 (lN v)) (rfl) ?_
  refine lv_lstore_n (lv' := [(0, .long (bl1 (lN v)))]) hx hb dJ13_bitCount_95d88_9 rfl hl (by decide) rfl (fun ls hl => ?_)
  refine lv_lload_n hx hb dJ13_bitCount_95d88_10 rfl (lv_at hl 0 rfl) ?_
  refine lv_ldc2 hx hb hown (hS.1 _ wi_416 _) dJ13_bitCount_95d88_11 ?_
  refine hp_eql (z := lN 3689348814741910323) (by decide) ?_
  refine lv_land hx hb dJ13_bitCount_95d88_14 ?_
  refine lv_lload_n hx hb dJ13_bitCount_95d88_15 rfl (lv_at hl 0 rfl) ?_
  refine lv_iconst (v := nI 2) hx hb dJ13_bitCount_95d88_16 (by decide) ?_
  refine lv_lushr hx hb dJ13_bitCount_95d88_17 rfl ?_
  refine lv_ldc2 hx hb hown (hS.1 _ wi_416 _) dJ13_bitCount_95d88_18 ?_
  refine hp_eql (z := lN 3689348814741910323) (by decide) ?_
  refine lv_land hx hb dJ13_bitCount_95d88_21 ?_
  refine lv_ladd hx hb dJ13_bitCount_95d88_22 ?_
  refine hp_eql (z := bl2 (bl1 (lN v))) (rfl) ?_
  refine lv_lstore_n (lv' := [(0, .long (bl2 (bl1 (lN v))))]) hx hb dJ13_bitCount_95d88_23 rfl hl (by decide) rfl (fun ls hl => ?_)
  refine lv_lload_n hx hb dJ13_bitCount_95d88_24 rfl (lv_at hl 0 rfl) ?_
  refine lv_lload_n hx hb dJ13_bitCount_95d88_25 rfl (lv_at hl 0 rfl) ?_
  refine lv_iconst (v := nI 4) hx hb dJ13_bitCount_95d88_26 (by decide) ?_
  refine lv_lushr hx hb dJ13_bitCount_95d88_27 rfl ?_
  refine lv_ladd hx hb dJ13_bitCount_95d88_28 ?_
  refine lv_ldc2 hx hb hown (hS.1 _ wi_417 _) dJ13_bitCount_95d88_29 ?_
  refine hp_eql (z := lN 1085102592571150095) (by decide) ?_
  refine lv_land hx hb dJ13_bitCount_95d88_32 ?_
  refine hp_eql (z := bl3 (bl2 (bl1 (lN v)))) (rfl) ?_
  refine lv_lstore_n (lv' := [(0, .long (bl3 (bl2 (bl1 (lN v)))))]) hx hb dJ13_bitCount_95d88_33 rfl hl (by decide) rfl (fun ls hl => ?_)
  refine lv_lload_n hx hb dJ13_bitCount_95d88_34 rfl (lv_at hl 0 rfl) ?_
  refine lv_lload_n hx hb dJ13_bitCount_95d88_35 rfl (lv_at hl 0 rfl) ?_
  refine lv_bipush (v := nI 8) hx hb dJ13_bitCount_95d88_36 (by decide) ?_
  refine lv_lushr hx hb dJ13_bitCount_95d88_38 rfl ?_
  refine lv_ladd hx hb dJ13_bitCount_95d88_39 ?_
  refine hp_eql (z := bl4 (bl3 (bl2 (bl1 (lN v))))) (rfl) ?_
  refine lv_lstore_n (lv' := [(0, .long (bl4 (bl3 (bl2 (bl1 (lN v))))))]) hx hb dJ13_bitCount_95d88_40 rfl hl (by decide) rfl (fun ls hl => ?_)
  refine lv_lload_n hx hb dJ13_bitCount_95d88_41 rfl (lv_at hl 0 rfl) ?_
  refine lv_lload_n hx hb dJ13_bitCount_95d88_42 rfl (lv_at hl 0 rfl) ?_
  refine lv_bipush (v := nI 16) hx hb dJ13_bitCount_95d88_43 (by decide) ?_
  refine lv_lushr hx hb dJ13_bitCount_95d88_45 rfl ?_
  refine lv_ladd hx hb dJ13_bitCount_95d88_46 ?_
  refine hp_eql (z := bl5 (bl4 (bl3 (bl2 (bl1 (lN v)))))) (rfl) ?_
  refine lv_lstore_n (lv' := [(0, .long (bl5 (bl4 (bl3 (bl2 (bl1 (lN v)))))))]) hx hb dJ13_bitCount_95d88_47 rfl hl (by decide) rfl (fun ls hl => ?_)
  refine lv_lload_n hx hb dJ13_bitCount_95d88_48 rfl (lv_at hl 0 rfl) ?_
  refine lv_lload_n hx hb dJ13_bitCount_95d88_49 rfl (lv_at hl 0 rfl) ?_
  refine lv_bipush (v := nI 32) hx hb dJ13_bitCount_95d88_50 (by decide) ?_
  refine lv_lushr hx hb dJ13_bitCount_95d88_52 rfl ?_
  refine lv_ladd hx hb dJ13_bitCount_95d88_53 ?_
  refine hp_eql (z := bl6 (bl5 (bl4 (bl3 (bl2 (bl1 (lN v))))))) (rfl) ?_
  refine lv_lstore_n (lv' := [(0, .long (bl6 (bl5 (bl4 (bl3 (bl2 (bl1 (lN v))))))))]) hx hb dJ13_bitCount_95d88_54 rfl hl (by decide) rfl (fun ls hl => ?_)
  refine lv_lload_n hx hb dJ13_bitCount_95d88_55 rfl (lv_at hl 0 rfl) ?_
  refine lv_l2i hx hb dJ13_bitCount_95d88_56 rfl ?_
  refine lv_bipush (v := nI 127) hx hb dJ13_bitCount_95d88_57 (by decide) ?_
  refine lv_iand hx hb dJ13_bitCount_95d88_59 ?_
  refine hp_eqi (z := nI (popN 8 v)) (z_bl v hv) ?_
  exact hp_ri hx hb hr hlocks hS hH (⟨rfl, rfl, rfl⟩) dJ13_bitCount_95d88_60

set_option maxHeartbeats 4000000 in
set_option maxRecDepth 100000 in
theorem c_X3_checkStep (l : Launch) (X : hp_X) {μ : hp_M} {nx : Nat} {x b : Nat} (hx1 : x < 65536) (hb1 : b < 256)  : Ct l X yX3_checkStep cX3_checkStep 3 (some FieldType.int) 0 0 0 0 [.int (nI x), .int (nI b)] μ nx (hq_i X (po_i nx (nI (crcS x b)) (fun z => z = μ))) := by
  refine hp_met (by decide) (Nat.le_of_ble_eq_true rfl) ?_
  intro p e s m below meth c ls hx hb hml hr hlocks hown hin hS hH hl
  have hl : lv_has ls 3 [(0, .int (nI x)), (1, .int (nI b))] := hl
  refine lv_iload_n hx hb dX3_checkStep_0 rfl (lv_at hl 1 rfl) ?_
  refine lv_iload_n hx hb dX3_checkStep_1 rfl (lv_at hl 0 rfl) ?_
  refine lv_sipush (v := nI 255) hx hb dX3_checkStep_2 (by decide) ?_
  refine lv_iand hx hb dX3_checkStep_5 ?_
  refine lv_ixor hx hb dX3_checkStep_6 ?_
  refine hp_eqi (z := nI (b ^^^ x % 256)) (z_cx hx1) ?_
  refine lv_istore_n (lv' := [(2, .int (nI (b ^^^ x % 256))), (0, .int (nI x)), (1, .int (nI b))]) hx hb dX3_checkStep_7 rfl hl (by decide) rfl (fun ls hl => ?_)
  refine lv_iload_n hx hb dX3_checkStep_8 rfl (lv_at hl 0 rfl) ?_
  refine lv_iload_n hx hb dX3_checkStep_9 rfl (lv_at hl 0 rfl) ?_
  refine lv_iconst (v := nI 4) hx hb dX3_checkStep_10 (by decide) ?_
  refine lv_ishl hx hb dX3_checkStep_11 ?_
  refine lv_ixor hx hb dX3_checkStep_12 ?_
  refine lv_sipush (v := nI 255) hx hb dX3_checkStep_13 (by decide) ?_
  refine lv_iand hx hb dX3_checkStep_16 ?_
  refine hp_eqi (z := nI (crcY (b ^^^ x % 256))) (z_cy (Nat.xor_lt_two_pow (n := 8) hb1 (Nat.mod_lt _ (by decide)))) ?_
  refine lv_istore_n (lv' := [(2, .int (nI (crcY (b ^^^ x % 256)))), (0, .int (nI x)), (1, .int (nI b))]) hx hb dX3_checkStep_17 rfl hl (by decide) rfl (fun ls hl => ?_)
  refine lv_iload_n hx hb dX3_checkStep_18 rfl (lv_at hl 1 rfl) ?_
  refine lv_bipush (v := nI 8) hx hb dX3_checkStep_19 (by decide) ?_
  refine lv_iushr hx hb dX3_checkStep_21 rfl ?_
  refine lv_iload_n hx hb dX3_checkStep_22 rfl (lv_at hl 0 rfl) ?_
  refine lv_bipush (v := nI 8) hx hb dX3_checkStep_23 (by decide) ?_
  refine lv_ishl hx hb dX3_checkStep_25 ?_
  refine lv_ixor hx hb dX3_checkStep_26 ?_
  refine lv_iload_n hx hb dX3_checkStep_27 rfl (lv_at hl 0 rfl) ?_
  refine lv_iconst (v := nI 3) hx hb dX3_checkStep_28 (by decide) ?_
  refine lv_ishl hx hb dX3_checkStep_29 ?_
  refine lv_ixor hx hb dX3_checkStep_30 ?_
  refine lv_iload_n hx hb dX3_checkStep_31 rfl (lv_at hl 0 rfl) ?_
  refine lv_iconst (v := nI 4) hx hb dX3_checkStep_32 (by decide) ?_
  refine lv_iushr hx hb dX3_checkStep_33 rfl ?_
  refine lv_ixor hx hb dX3_checkStep_34 ?_
  refine lv_ldc hx hb hown (hS.1 _ wi_448 _) dX3_checkStep_35 ?_
  refine hp_eqi (z := nI 65535) (by decide) ?_
  refine lv_iand hx hb dX3_checkStep_37 ?_
  refine hp_eqi (z := nI (crcS x b)) (z_cf hx1 (crcY_lt _)) ?_
  exact hp_ri hx hb hr hlocks hS hH (⟨rfl, rfl, rfl⟩) dX3_checkStep_38

set_option maxHeartbeats 4000000 in
set_option maxRecDepth 100000 in
theorem c_X8_clear (l : Launch) (X : hp_X) {μ : hp_M} {nx : Nat} {r b size : Nat} (f_r : μ r = some (hp_o 4 [.ref b, .int (nI size)])) : Ct l X yX8_clear cX8_clear 1 (none : Option Jvm.ClassFile.FieldType) 0 0 0 0 [.ref r] μ nx (hq_v X (po_v nx (fun z => z r = some (hp_o 4 [.ref b, .int (nI 0)]) ∧ hp_eq [r] z μ))) := by
  refine hp_met (by decide) (Nat.le_of_ble_eq_true rfl) ?_
  intro p e s m below meth c ls hx hb hml hr hlocks hown hin hS hH hl
  have hl : lv_has ls 1 [(0, .ref r)] := hl
  have fr : hp_eq [r] μ μ := fun _ _ => rfl
  refine lv_aload_n hx hb dX8_clear_0 rfl (lv_at hl 0 rfl) ?_
  refine lv_iconst (v := nI 0) hx hb dX8_clear_1 (by decide) ?_
  refine hp_put hx hb hown hS.2.1 hH (P_X8_15.use hS) f_r rfl rfl (Nat.le_of_ble_eq_true rfl) dX8_clear_2 (fun H locs μ1 fz fn hH => ?_)
  have f_r : μ1 r = some (hp_o 4 [.ref b, .int (nI 0)]) := fz
  have fr := hp_eq.put fr (by simp) fn
  clear fz fn
  exact hp_rv hx hb hr hlocks hS hH (⟨rfl, f_r, fr⟩) dX8_clear_5

set_option maxHeartbeats 4000000 in
set_option maxRecDepth 100000 in
theorem c_X8_hasRoomFor (l : Launch) (X : hp_X) {μ : hp_M} {nx : Nat} {r b room size : Nat} {rb : Nat → Nat} {n : Nat} (hr1 : room < 2 ^ 30) (hn1 : n < 2 ^ 30) (hs1 : size < 2 ^ 30) (f_r : μ r = some (hp_o 4 [.ref b, .int (nI size)])) (f_b : μ b = some (hp_n X room rb)) : Ct l X yX8_hasRoomFor cX8_hasRoomFor 2 (some FieldType.boolean) 0 0 0 0 [.ref r, .int (nI n)] μ nx (hq_i X (po_i nx (nB (decide (size + n ≤ room))) (fun z => z = μ))) := by
  refine hp_met (by decide) (Nat.le_of_ble_eq_true rfl) ?_
  intro p e s m below meth c ls hx hb hml hr hlocks hown hin hS hH hl
  have hl : lv_has ls 2 [(0, .ref r), (1, .int (nI n))] := hl
  refine lv_aload_n hx hb dX8_hasRoomFor_0 rfl (lv_at hl 0 rfl) ?_
  refine hp_get hx hb hown hS.2.1 hH (F_X8_15.use hS) f_r rfl dX8_hasRoomFor_1 ?_
  refine lv_iload_n hx hb dX8_hasRoomFor_4 rfl (lv_at hl 1 rfl) ?_
  refine lv_iadd hx hb dX8_hasRoomFor_5 ?_
  refine hp_eqi (z := nI (size + n)) (nI_add _ _) ?_
  refine lv_aload_n hx hb dX8_hasRoomFor_6 rfl (lv_at hl 0 rfl) ?_
  refine hp_get hx hb hown hS.2.1 hH (F_X8_9.use hS) f_r rfl dX8_hasRoomFor_7 ?_
  refine hp_alen hx hb hS.ai hH f_b rfl dX8_hasRoomFor_10 ?_
  refine lv_icmp_gt (tgt := 18) hx hb dX8_hasRoomFor_11 (by decide) (fun c_11 => ?_) (fun c_11 => ?_)
  · have c_11 : room < (size + n) := (nI_ltI (by omega) (by omega)).mp c_11
    refine lv_iconst (v := nI 0) hx hb dX8_hasRoomFor_18 (by decide) ?_
    refine hp_eqi (z := nB false) (by decide) ?_
    exact hp_rz hx hb hr hlocks hS hH (nB_nar _) (⟨rfl, congrArg nB (Eq.symm (by simp; omega)), rfl⟩) dX8_hasRoomFor_19
  · have c_11 : ¬ (room < (size + n)) := fun z => c_11 ((nI_ltI (by omega) (by omega)).mpr z)
    refine lv_iconst (v := nI 1) hx hb dX8_hasRoomFor_14 (by decide) ?_
    refine lv_goto (tgt := 19) hx hb dX8_hasRoomFor_15 (by decide) ?_
    refine hp_eqi (z := nB true) (by decide) ?_
    exact hp_rz hx hb hr hlocks hS hH (nB_nar _) (⟨rfl, congrArg nB (Eq.symm (by simp; omega)), rfl⟩) dX8_hasRoomFor_19

set_option maxHeartbeats 4000000 in
set_option maxRecDepth 100000 in
theorem c_X8_addBits (l : Launch) (X : hp_X) {μ : hp_M} {nx : Nat} {r b room size : Nat} {rb : Nat → Nat} {v : Int32} {n : Nat} (hr1 : room < 2 ^ 30) (hn1 : n ≤ 32) (hs1 : size + n ≤ room) (f_r : μ r = some (hp_o 4 [.ref b, .int (nI size)])) (f_b : μ b = some (hp_n X room rb)) : Ct l X yX8_addBits cX8_addBits 4 (none : Option Jvm.ClassFile.FieldType) 0 0 0 0 [.ref r, .int v, .int (nI n)] μ nx (hq_v X (po_v nx (fun z => z r = some (hp_o 4 [.ref b, .int (nI (size + n))]) ∧ z b = some (hp_n X room (apB rb size v n)) ∧ hp_eq [r, b] z μ))) := by
  refine hp_met (by decide) (Nat.le_of_ble_eq_true rfl) ?_
  intro p e s m below meth c ls hx hb hml hr hlocks hown hin hS hH hl
  have hl : lv_has ls 4 [(0, .ref r), (1, .int v), (2, .int (nI n))] := hl
  have fr : hp_eq [r, b] μ μ := fun _ _ => rfl
  refine lv_iconst (v := nI 0) hx hb dX8_addBits_0 (by decide) ?_
  refine lv_istore_n (lv' := [(3, .int (nI 0)), (0, .ref r), (1, .int v), (2, .int (nI n))]) hx hb dX8_addBits_1 rfl hl (by decide) rfl (fun ls hl => ?_)
  have f_b : μ b = some (hp_n X room (apB rb size v 0)) := by rw [apB_0]; exact f_b
  have lp_2 : ∀ (kk : Nat) (i : Nat), (i ≤ n) → (n - i) < kk → ∀ (μ1 : hp_M) (H : Heap) (locs : List Loc) (ls : Array Slot), (μ1 r = some (hp_o 4 [.ref b, .int (nI (size + i))])) → (μ1 b = some (hp_n X room (apB rb size v i))) → hp_eq [r, b] μ1 μ → hp_w X cls μ1 nx H locs → lv_has ls 4 [(0, .ref r), (1, .int v), (2, .int (nI n)), (3, .int (nI i))] → W p l e { frames := 0, cells := 0, slots := 0, locals := 0 } s m [.ref r, .int v, .int (nI n)].toArray below meth c H locs 0 0 (MQ below (hq_v X (po_v nx (fun z => z r = some (hp_o 4 [.ref b, .int (nI (size + n))]) ∧ z b = some (hp_n X room (apB rb size v n)) ∧ hp_eq [r, b] z μ))) [.ref r, .int v, .int (nI n)].toArray s 0 0 (hp_A X)) (F0 m 2 ls []) := by
    intro kk
    induction kk with
    | zero =>
      intro i hi hkk
      exact absurd hkk (Nat.not_lt_zero _)
    | succ kk ih =>
      intro i hi hkk μ1 H locs ls f_r f_b fr hH hl
      refine lv_iload_n hx hb dX8_addBits_2 rfl (lv_at hl 3 rfl) ?_
      refine lv_iload_n hx hb dX8_addBits_3 rfl (lv_at hl 2 rfl) ?_
      refine lv_icmp_ge (tgt := 49) hx hb dX8_addBits_4 (by decide) (fun c_4 => ?_) (fun c_4 => ?_)
      · have c_4 : n ≤ i := (nI_leI (by omega) (by omega)).mp c_4
        have hin : i = n := by omega
        subst hin
        exact hp_rv hx hb hr hlocks hS hH (⟨rfl, f_r, f_b, fr⟩) dX8_addBits_49
      · have c_4 : ¬ (n ≤ i) := fun z => c_4 ((nI_leI (by omega) (by omega)).mpr z)
        refine lv_aload_n hx hb dX8_addBits_7 rfl (lv_at hl 0 rfl) ?_
        refine hp_get hx hb hown hS.2.1 hH (F_X8_15.use hS) f_r rfl dX8_addBits_8 ?_
        refine lv_aload_n hx hb dX8_addBits_11 rfl (lv_at hl 0 rfl) ?_
        refine hp_get hx hb hown hS.2.1 hH (F_X8_9.use hS) f_r rfl dX8_addBits_12 ?_
        refine hp_alen hx hb hS.ai hH f_b rfl dX8_addBits_15 ?_
        refine lv_icmp_ge (tgt := 49) hx hb dX8_addBits_16 (by decide) (fun c_16 => ?_) (fun c_16 => ?_)
        · have c_16 : room ≤ (size + i) := (nI_leI (by omega) (by omega)).mp c_16
          exact absurd c_16 (by omega)
        · have c_16 : ¬ (room ≤ (size + i)) := fun z => c_16 ((nI_leI (by omega) (by omega)).mpr z)
          refine lv_aload_n hx hb dX8_addBits_19 rfl (lv_at hl 0 rfl) ?_
          refine hp_get hx hb hown hS.2.1 hH (F_X8_9.use hS) f_r rfl dX8_addBits_20 ?_
          refine lv_aload_n hx hb dX8_addBits_23 rfl (lv_at hl 0 rfl) ?_
          refine hp_get hx hb hown hS.2.1 hH (F_X8_15.use hS) f_r rfl dX8_addBits_24 ?_
          refine lv_iload_n hx hb dX8_addBits_27 rfl (lv_at hl 1 rfl) ?_
          refine lv_iload_n hx hb dX8_addBits_28 rfl (lv_at hl 3 rfl) ?_
          refine lv_iushr hx hb dX8_addBits_29 rfl ?_
          refine lv_iconst (v := nI 1) hx hb dX8_addBits_30 (by decide) ?_
          refine lv_iand hx hb dX8_addBits_31 ?_
          refine hp_eqi (z := nI (bitI v i)) (z_bit (by omega)) ?_
          refine hp_iastN hx hb hS.ai hH f_b (by omega) (by omega) dX8_addBits_32 (fun H locs μ1 fz fn hH => ?_)
          have f_r := (fn _ (hp_ne f_r f_b (by simp))).trans f_r
          have f_b : μ1 b = some (hp_n X room (setN (apB rb size v i) (size + i) (bitI v i))) := fz
          have fr := hp_eq.put fr (by simp) fn
          clear fz fn
          refine lv_aload_n hx hb dX8_addBits_33 rfl (lv_at hl 0 rfl) ?_
          refine lv_dup hx hb dX8_addBits_34 rfl ?_
          refine hp_get hx hb hown hS.2.1 hH (F_X8_15.use hS) f_r rfl dX8_addBits_35 ?_
          refine lv_iconst (v := nI 1) hx hb dX8_addBits_38 (by decide) ?_
          refine lv_iadd hx hb dX8_addBits_39 ?_
          refine hp_eqi (z := nI ((size + i) + 1)) (nI_add _ _) ?_
          refine hp_put hx hb hown hS.2.1 hH (P_X8_15.use hS) f_r rfl rfl (Nat.le_of_ble_eq_true rfl) dX8_addBits_40 (fun H locs μ1 fz fn hH => ?_)
          have f_b := (fn _ (hp_ne f_b f_r (by simp))).trans f_b
          have f_r : μ1 r = some (hp_o 4 [.ref b, .int (nI ((size + i) + 1))]) := fz
          have fr := hp_eq.put fr (by simp) fn
          clear fz fn
          refine lv_iinc (v := nI (i + 1)) (lv' := [(3, .int (nI (i + 1))), (0, .ref r), (1, .int v), (2, .int (nI n))]) hx hb dX8_addBits_43 hl (k := 3) rfl (nI_add _ 1) (by decide) rfl (fun ls hl => ?_)
          refine lv_goto (tgt := 2) hx hb dX8_addBits_46 (by decide) ?_
          have f_b := f_b.trans (congrArg (fun g => some (hp_n X room g)) (show setN (apB rb size v i) (size + i) (bitI v i) = apB rb size v (i + 1) from apB_s rb size v i))
          exact ih (i + 1) (by omega) (by omega) _ _ _ _ f_r f_b fr hH (lv_sub hl [1, 2, 3, 0] rfl)
  exact lp_2 ((n - 0) + 1) 0 (Nat.zero_le _) (Nat.lt_succ_self _) _ _ _ _ f_r f_b fr hH (lv_sub hl [1, 2, 3, 0] rfl)

set_option maxHeartbeats 4000000 in
set_option maxRecDepth 100000 in
theorem c_X8_valueAt (l : Launch) (X : hp_X) {μ : hp_M} {nx : Nat} {r b room size : Nat} {rb : Nat → Nat} {fm n : Nat} (h01 : ∀ j, rb j < 2) (hr1 : room < 2 ^ 30) (hn1 : n ≤ 30) (hf1 : fm < 2 ^ 30) (hs1 : size ≤ room) (f_r : μ r = some (hp_o 4 [.ref b, .int (nI size)])) (f_b : μ b = some (hp_n X room rb)) : Ct l X yX8_valueAt cX8_valueAt 5 (some FieldType.int) 0 0 0 0 [.ref r, .int (nI fm), .int (nI n)] μ nx (hq_i X (po_i nx (nI (valN rb size fm n)) (fun z => z = μ))) := by
  refine hp_met (by decide) (Nat.le_of_ble_eq_true rfl) ?_
  intro p e s m below meth c ls hx hb hml hr hlocks hown hin hS hH hl
  have hl : lv_has ls 5 [(0, .ref r), (1, .int (nI fm)), (2, .int (nI n))] := hl
  refine lv_iconst (v := nI 0) hx hb dX8_valueAt_0 (by decide) ?_
  refine lv_istore_n (lv' := [(3, .int (nI 0)), (0, .ref r), (1, .int (nI fm)), (2, .int (nI n))]) hx hb dX8_valueAt_1 rfl hl (by decide) rfl (fun ls hl => ?_)
  refine lv_iconst (v := nI 0) hx hb dX8_valueAt_2 (by decide) ?_
  refine lv_istore (lv' := [(4, .int (nI 0)), (3, .int (nI 0)), (0, .ref r), (1, .int (nI fm)), (2, .int (nI n))]) hx hb dX8_valueAt_3 hl (by decide) rfl (fun ls hl => ?_)
  have lp_5 : ∀ (kk : Nat) (i : Nat), (i ≤ n) → (n - i) < kk → ∀ (H : Heap) (locs : List Loc) (ls : Array Slot), hp_w X cls μ nx H locs → lv_has ls 5 [(0, .ref r), (1, .int (nI fm)), (2, .int (nI n)), (3, .int (nI (valN rb size fm i))), (4, .int (nI i))] → W p l e { frames := 0, cells := 0, slots := 0, locals := 0 } s m [.ref r, .int (nI fm), .int (nI n)].toArray below meth c H locs 0 0 (MQ below (hq_i X (po_i nx (nI (valN rb size fm n)) (fun z => z = μ))) [.ref r, .int (nI fm), .int (nI n)].toArray s 0 0 (hp_A X)) (F0 m 5 ls []) := by
    intro kk
    induction kk with
    | zero =>
      intro i hi hkk
      exact absurd hkk (Nat.not_lt_zero _)
    | succ kk ih =>
      intro i hi hkk H locs ls  hH hl
      refine lv_iload hx hb dX8_valueAt_5 (lv_at hl 4 rfl) ?_
      refine lv_iload_n hx hb dX8_valueAt_7 rfl (lv_at hl 2 rfl) ?_
      refine lv_icmp_ge (tgt := 43) hx hb dX8_valueAt_8 (by decide) (fun c_8 => ?_) (fun c_8 => ?_)
      · have c_8 : n ≤ i := (nI_leI (by omega) (by omega)).mp c_8
        refine lv_iload_n hx hb dX8_valueAt_43 rfl (lv_at hl 3 rfl) ?_
        exact hp_ri hx hb hr hlocks hS hH (⟨rfl, congrArg nI (Eq.symm (by first | (rw [show i = n by omega]) | exact valN_stop (by omega) _ hi)), rfl⟩) dX8_valueAt_44
      · have c_8 : ¬ (n ≤ i) := fun z => c_8 ((nI_leI (by omega) (by omega)).mpr z)
        refine lv_iload_n hx hb dX8_valueAt_11 rfl (lv_at hl 1 rfl) ?_
        refine lv_iload hx hb dX8_valueAt_12 (lv_at hl 4 rfl) ?_
        refine lv_iadd hx hb dX8_valueAt_14 ?_
        refine hp_eqi (z := nI (fm + i)) (nI_add _ _) ?_
        refine lv_aload_n hx hb dX8_valueAt_15 rfl (lv_at hl 0 rfl) ?_
        refine hp_get hx hb hown hS.2.1 hH (F_X8_15.use hS) f_r rfl dX8_valueAt_16 ?_
        refine lv_icmp_ge (tgt := 43) hx hb dX8_valueAt_19 (by decide) (fun c_19 => ?_) (fun c_19 => ?_)
        · have c_19 : size ≤ (fm + i) := (nI_leI (by omega) (by omega)).mp c_19
          refine lv_iload_n hx hb dX8_valueAt_43 rfl (lv_at hl 3 rfl) ?_
          exact hp_ri hx hb hr hlocks hS hH (⟨rfl, congrArg nI (Eq.symm (by first | (rw [show i = n by omega]) | exact valN_stop (by omega) _ hi)), rfl⟩) dX8_valueAt_44
        · have c_19 : ¬ (size ≤ (fm + i)) := fun z => c_19 ((nI_leI (by omega) (by omega)).mpr z)
          have c_19 : fm + i < size := by omega
          refine lv_iload_n hx hb dX8_valueAt_22 rfl (lv_at hl 3 rfl) ?_
          refine lv_aload_n hx hb dX8_valueAt_23 rfl (lv_at hl 0 rfl) ?_
          refine hp_get hx hb hown hS.2.1 hH (F_X8_9.use hS) f_r rfl dX8_valueAt_24 ?_
          refine lv_iload_n hx hb dX8_valueAt_27 rfl (lv_at hl 1 rfl) ?_
          refine lv_iload hx hb dX8_valueAt_28 (lv_at hl 4 rfl) ?_
          refine lv_iadd hx hb dX8_valueAt_30 ?_
          refine hp_eqi (z := nI (fm + i)) (nI_add _ _) ?_
          refine hp_ialdN hx hb hS.ai hH f_b (by omega) (by omega) dX8_valueAt_31 ?_
          refine lv_iload hx hb dX8_valueAt_32 (lv_at hl 4 rfl) ?_
          refine lv_ishl hx hb dX8_valueAt_34 ?_
          refine lv_ior hx hb dX8_valueAt_35 ?_
          refine hp_eqi (z := nI (valN rb size fm (i + 1))) (by rw [z_or (valN_lt h01 _ _ _) (h01 _) (by omega)]; simp only [valN]; rw [if_pos c_19]) ?_
          refine lv_istore_n (lv' := [(3, .int (nI (valN rb size fm (i + 1)))), (0, .ref r), (1, .int (nI fm)), (2, .int (nI n)), (4, .int (nI i))]) hx hb dX8_valueAt_36 rfl hl (by decide) rfl (fun ls hl => ?_)
          refine lv_iinc (v := nI (i + 1)) (lv' := [(4, .int (nI (i + 1))), (3, .int (nI (valN rb size fm (i + 1)))), (0, .ref r), (1, .int (nI fm)), (2, .int (nI n))]) hx hb dX8_valueAt_37 hl (k := 4) rfl (nI_add _ 1) (by decide) rfl (fun ls hl => ?_)
          refine lv_goto (tgt := 5) hx hb dX8_valueAt_40 (by decide) ?_
          exact ih (i + 1) (by omega) (by omega) _ _ _  hH (lv_sub hl [2, 3, 4, 1, 0] rfl)
  exact lp_5 ((n - 0) + 1) 0 (Nat.zero_le _) (Nat.lt_succ_self _) _ _ _  hH (lv_sub hl [2, 3, 4, 1, 0] rfl)
end
section
set_option maxHeartbeats 4000000 in
set_option maxRecDepth 100000 in
theorem c_X3_octetsOf (l : Launch) (X : hp_X) {μ : hp_M} {nx : Nat} {B n : Nat} (hB : B < 2 ^ 64) (hn1 : n ≤ 7)  : Ct l X yX3_octetsOf cX3_octetsOf 10 (some FieldType.long) 1 40 0 0 [.long (lN B), .int (nI n)] μ nx (hq_l X (po_l nx (lN (octN B n)) (fun z => z = μ))) := by
  refine hp_met (by decide) (Nat.le_of_ble_eq_true rfl) ?_
  intro p e s m below meth c ls hx hb hml hr hlocks hown hin hS hH hl
  have hl : lv_has ls 10 [(0, .long (lN B)), (2, .int (nI n))] := hl
  refine lv_lconst (v := lN 0) hx hb dX3_octetsOf_0 rfl ?_
  refine lv_lstore_n (lv' := [(3, .long (lN 0)), (0, .long (lN B)), (2, .int (nI n))]) hx hb dX3_octetsOf_1 rfl hl (by decide) rfl (fun ls hl => ?_)
  refine lv_iconst (v := nI 0) hx hb dX3_octetsOf_2 (by decide) ?_
  refine lv_istore (lv' := [(5, .int (nI 0)), (3, .long (lN 0)), (0, .long (lN B)), (2, .int (nI n))]) hx hb dX3_octetsOf_3 hl (by decide) rfl (fun ls hl => ?_)
  have lp_5 : ∀ (kk : Nat) (i : Nat), (i ≤ n) → (n - i) < kk → ∀ (H : Heap) (locs : List Loc) (ls : Array Slot), hp_w X cls μ nx H locs → lv_has ls 10 [(0, .long (lN B)), (2, .int (nI n)), (3, .long (lN (octN B i))), (5, .int (nI i))] → W p l e { frames := 1, cells := 0, slots := 0, locals := 40 } s m [.long (lN B), .int (nI n)].toArray below meth c H locs 0 0 (MQ below (hq_l X (po_l nx (lN (octN B n)) (fun z => z = μ))) [.long (lN B), .int (nI n)].toArray s 0 0 (hp_A X)) (F0 m 5 ls []) := by
    intro kk
    induction kk with
    | zero =>
      intro i hi hkk
      exact absurd hkk (Nat.not_lt_zero _)
    | succ kk ih =>
      intro i hi hkk H locs ls  hH hl
      refine lv_iload hx hb dX3_octetsOf_5 (lv_at hl 3 rfl) ?_
      refine lv_iload_n hx hb dX3_octetsOf_7 rfl (lv_at hl 1 rfl) ?_
      refine lv_icmp_ge (tgt := 59) hx hb dX3_octetsOf_8 (by decide) (fun c_8 => ?_) (fun c_8 => ?_)
      · have c_8 : n ≤ i := (nI_leI (by omega) (by omega)).mp c_8
        refine lv_lload_n hx hb dX3_octetsOf_59 rfl (lv_at hl 2 rfl) ?_
        have hin : i = n := by omega
        subst hin
        exact hp_rl hx hb hr hlocks hS hH (⟨rfl, rfl, rfl⟩) dX3_octetsOf_60
      · have c_8 : ¬ (n ≤ i) := fun z => c_8 ((nI_leI (by omega) (by omega)).mpr z)
        refine lv_lload_n hx hb dX3_octetsOf_11 rfl (lv_at hl 0 rfl) ?_
        refine lv_bipush (v := nI 8) hx hb dX3_octetsOf_12 (by decide) ?_
        refine lv_iload hx hb dX3_octetsOf_14 (lv_at hl 3 rfl) ?_
        refine lv_imul hx hb dX3_octetsOf_16 ?_
        refine hp_eqi (z := nI (8 * i)) (pk_mul _ _) ?_
        refine lv_lushr hx hb dX3_octetsOf_17 rfl ?_
        refine hp_eql (z := lN (B / 2 ^ (8 * i))) (wb_shr hB (by omega)) ?_
        refine lv_ldc2 hx hb hown (hS.1 _ wi_411 _) dX3_octetsOf_18 ?_
        refine hp_eql (z := lN 255) (by decide) ?_
        refine lv_land hx hb dX3_octetsOf_21 ?_
        refine hp_eql (z := lN (B / 2 ^ (8 * i) % 256)) (wb_mask (k := 8) (Nat.lt_of_le_of_lt (Nat.div_le_self _ _) hB) (by decide)) ?_
        refine lv_lstore (lv' := [(6, .long (lN (B / 2 ^ (8 * i) % 256))), (0, .long (lN B)), (2, .int (nI n)), (3, .long (lN (octN B i))), (5, .int (nI i))]) hx hb dX3_octetsOf_22 hl (by decide) rfl (fun ls hl => ?_)
        refine lv_iconst (v := nI 1) hx hb dX3_octetsOf_24 (by decide) ?_
        refine lv_lload hx hb dX3_octetsOf_25 (lv_at hl 0 rfl) ?_
        refine hp_kip (hp_runS (As := [.long (lN (B / 2 ^ (8 * i) % 256))]) (rest := [.int (nI 1)]) hx hb hml hown hS hH (c_J13_bitCount_95d88 l X (v := B / 2 ^ (8 * i) % 256) (Nat.mod_lt _ (by decide))) M_X3_11 S_J13_bitCount_95d88 rfl hl.1 rfl (Nat.le_of_ble_eq_true rfl) dX3_octetsOf_27 ⟨Nat.le_of_ble_eq_true rfl, Nat.le_of_ble_eq_true rfl⟩ ⟨Nat.le_of_ble_eq_true rfl, Nat.le_of_ble_eq_true rfl⟩) hH (fun H locs hH => ?_)
        have hpo := popN_le 8 (B / 2 ^ (8 * i) % 256)
        refine lv_iconst (v := nI 2) hx hb dX3_octetsOf_30 (by decide) ?_
        refine lv_irem hx hb dX3_octetsOf_31 (nI_ne0 (by omega) (by omega)) ?_
        refine hp_eqi (z := nI ((popN 8 (B / 2 ^ (8 * i) % 256)) % 2)) (pk_rem (by omega) (by omega) (by omega)) ?_
        refine lv_isub hx hb dX3_octetsOf_32 ?_
        refine hp_eqi (z := nI (1 - ((popN 8 (B / 2 ^ (8 * i) % 256)) % 2))) (pk_sub (by omega)) ?_
        refine lv_i2l hx hb dX3_octetsOf_33 rfl ?_
        refine hp_eql (z := lN (1 - popN 8 (B / 2 ^ (8 * i) % 256) % 2)) (nI_l (by omega)) ?_
        refine lv_lstore (lv' := [(8, .long (lN (1 - popN 8 (B / 2 ^ (8 * i) % 256) % 2))), (6, .long (lN (B / 2 ^ (8 * i) % 256))), (0, .long (lN B)), (2, .int (nI n)), (3, .long (lN (octN B i))), (5, .int (nI i))]) hx hb dX3_octetsOf_34 hl (by decide) rfl (fun ls hl => ?_)
        refine lv_lload_n hx hb dX3_octetsOf_36 rfl (lv_at hl 4 rfl) ?_
        refine lv_lload hx hb dX3_octetsOf_37 (lv_at hl 1 rfl) ?_
        refine lv_lload hx hb dX3_octetsOf_39 (lv_at hl 0 rfl) ?_
        refine lv_bipush (v := nI 8) hx hb dX3_octetsOf_41 (by decide) ?_
        refine lv_lshl hx hb dX3_octetsOf_43 rfl ?_
        refine hp_eql (z := lN ((1 - popN 8 (B / 2 ^ (8 * i) % 256) % 2) * 2 ^ 8)) (wb_shl _ (by decide)) ?_
        refine lv_lor hx hb dX3_octetsOf_44 ?_
        refine hp_eql (z := lN (octB (B / 2 ^ (8 * i) % 256))) (by rw [g_or' (k := 8) rfl (Nat.mod_lt _ (by decide)) (by omega)]; unfold octB; congr 1; omega) ?_
        refine lv_bipush (v := nI 9) hx hb dX3_octetsOf_45 (by decide) ?_
        refine lv_iload hx hb dX3_octetsOf_47 (lv_at hl 5 rfl) ?_
        refine lv_imul hx hb dX3_octetsOf_49 ?_
        refine hp_eqi (z := nI (9 * i)) (pk_mul _ _) ?_
        refine lv_lshl hx hb dX3_octetsOf_50 rfl ?_
        refine hp_eql (z := lN (octB (B / 2 ^ (8 * i) % 256) * 2 ^ (9 * i))) (wb_shl _ (by omega)) ?_
        refine lv_lor hx hb dX3_octetsOf_51 ?_
        refine hp_eql (z := lN (octN B (i + 1))) (by rw [g_or' (k := 9 * i) rfl (octN_lt B i) (Nat.lt_of_lt_of_le (octN_lt B (i + 1)) (Nat.pow_le_pow_right (by decide) (by omega)))]; rfl) ?_
        refine lv_lstore_n (lv' := [(3, .long (lN (octN B (i + 1)))), (8, .long (lN (1 - popN 8 (B / 2 ^ (8 * i) % 256) % 2))), (6, .long (lN (B / 2 ^ (8 * i) % 256))), (0, .long (lN B)), (2, .int (nI n)), (5, .int (nI i))]) hx hb dX3_octetsOf_52 rfl hl (by decide) rfl (fun ls hl => ?_)
        refine lv_iinc (v := nI (i + 1)) (lv' := [(5, .int (nI (i + 1))), (3, .long (lN (octN B (i + 1)))), (8, .long (lN (1 - popN 8 (B / 2 ^ (8 * i) % 256) % 2))), (6, .long (lN (B / 2 ^ (8 * i) % 256))), (0, .long (lN B)), (2, .int (nI n))]) hx hb dX3_octetsOf_53 hl (k := 5) rfl (nI_add _ 1) (by decide) rfl (fun ls hl => ?_)
        refine lv_goto (tgt := 5) hx hb dX3_octetsOf_56 (by decide) ?_
        exact ih (i + 1) (by omega) (by omega) _ _ _  hH (lv_sub hl [4, 5, 1, 0] rfl)
  exact lp_5 ((n - 0) + 1) 0 (Nat.zero_le _) (Nat.lt_succ_self _) _ _ _  hH (lv_sub hl [2, 3, 1, 0] rfl)

set_option maxHeartbeats 4000000 in
set_option maxRecDepth 100000 in
theorem c_X3_checkedOctetsOf (l : Launch) (X : hp_X) {μ : hp_M} {nx : Nat} {B n : Nat} (hn1 : n ≤ 3) (hB : B < 2 ^ (8 * n)) (hB2 : B < 2 ^ 32)  : Ct l X yX3_checkedOctetsOf cX3_checkedOctetsOf 5 (some FieldType.long) 2 80 0 0 [.long (lN B), .int (nI n)] μ nx (hq_l X (po_l nx (lN (octN (B + crcB B n * 2 ^ (8 * n)) (n + 2))) (fun z => z = μ))) := by
  refine hp_met (by decide) (Nat.le_of_ble_eq_true rfl) ?_
  intro p e s m below meth c ls hx hb hml hr hlocks hown hin hS hH hl
  have hl : lv_has ls 5 [(0, .long (lN B)), (2, .int (nI n))] := hl
  refine lv_sipush (v := nI 25443) hx hb dX3_checkedOctetsOf_0 (by decide) ?_
  refine lv_istore_n (lv' := [(3, .int (nI 25443)), (0, .long (lN B)), (2, .int (nI n))]) hx hb dX3_checkedOctetsOf_3 rfl hl (by decide) rfl (fun ls hl => ?_)
  refine lv_iconst (v := nI 0) hx hb dX3_checkedOctetsOf_4 (by decide) ?_
  refine lv_istore (lv' := [(4, .int (nI 0)), (3, .int (nI 25443)), (0, .long (lN B)), (2, .int (nI n))]) hx hb dX3_checkedOctetsOf_5 hl (by decide) rfl (fun ls hl => ?_)
  have lp_7 : ∀ (kk : Nat) (i : Nat), (i ≤ n) → (n - i) < kk → ∀ (H : Heap) (locs : List Loc) (ls : Array Slot), hp_w X cls μ nx H locs → lv_has ls 5 [(0, .long (lN B)), (2, .int (nI n)), (3, .int (nI (crcB B i))), (4, .int (nI i))] → W p l e { frames := 2, cells := 0, slots := 0, locals := 80 } s m [.long (lN B), .int (nI n)].toArray below meth c H locs 0 0 (MQ below (hq_l X (po_l nx (lN (octN (B + crcB B n * 2 ^ (8 * n)) (n + 2))) (fun z => z = μ))) [.long (lN B), .int (nI n)].toArray s 0 0 (hp_A X)) (F0 m 7 ls []) := by
    intro kk
    induction kk with
    | zero =>
      intro i hi hkk
      exact absurd hkk (Nat.not_lt_zero _)
    | succ kk ih =>
      intro i hi hkk H locs ls  hH hl
      refine lv_iload hx hb dX3_checkedOctetsOf_7 (lv_at hl 3 rfl) ?_
      refine lv_iload_n hx hb dX3_checkedOctetsOf_9 rfl (lv_at hl 1 rfl) ?_
      refine lv_icmp_ge (tgt := 36) hx hb dX3_checkedOctetsOf_10 (by decide) (fun c_10 => ?_) (fun c_10 => ?_)
      · have c_10 : n ≤ i := (nI_leI (by omega) (by omega)).mp c_10
        have hin : i = n := by omega
        subst hin
        have hcl := crcB_lt B i
        have hpw : (2 : Nat) ^ (8 * i) ≤ 2 ^ 24 := Nat.pow_le_pow_right (by decide) (by omega)
        have hml2 : crcB B i * 2 ^ (8 * i) ≤ 65535 * 2 ^ (8 * i) := Nat.mul_le_mul_right _ (by omega)
        refine lv_lload_n hx hb dX3_checkedOctetsOf_36 rfl (lv_at hl 0 rfl) ?_
        refine lv_iload_n hx hb dX3_checkedOctetsOf_37 rfl (lv_at hl 2 rfl) ?_
        refine lv_i2l hx hb dX3_checkedOctetsOf_38 rfl ?_
        refine hp_eql (z := lN (crcB B i)) (nI_l (by omega)) ?_
        refine lv_bipush (v := nI 8) hx hb dX3_checkedOctetsOf_39 (by decide) ?_
        refine lv_iload_n hx hb dX3_checkedOctetsOf_41 rfl (lv_at hl 1 rfl) ?_
        refine lv_imul hx hb dX3_checkedOctetsOf_42 ?_
        refine hp_eqi (z := nI (8 * i)) (pk_mul _ _) ?_
        refine lv_lshl hx hb dX3_checkedOctetsOf_43 rfl ?_
        refine hp_eql (z := lN (crcB B i * 2 ^ (8 * i))) (wb_shl _ (by omega)) ?_
        refine lv_lor hx hb dX3_checkedOctetsOf_44 ?_
        refine hp_eql (z := lN (B + crcB B i * 2 ^ (8 * i))) (g_or' (k := 8 * i) rfl hB (by omega)) ?_
        refine lv_iload_n hx hb dX3_checkedOctetsOf_45 rfl (lv_at hl 1 rfl) ?_
        refine lv_iconst (v := nI 2) hx hb dX3_checkedOctetsOf_46 (by decide) ?_
        refine lv_iadd hx hb dX3_checkedOctetsOf_47 ?_
        refine hp_eqi (z := nI (i + 2)) (nI_add _ _) ?_
        refine hp_klp (hp_runS (As := [.long (lN (B + crcB B i * 2 ^ (8 * i))), .int (nI (i + 2))]) (rest := []) hx hb hml hown hS hH (c_X3_octetsOf l X (B := B + crcB B i * 2 ^ (8 * i)) (n := i + 2) (by omega) (by omega)) M_X3_24 S_X3_octetsOf rfl hl.1 rfl (Nat.le_of_ble_eq_true rfl) dX3_checkedOctetsOf_48 ⟨Nat.le_of_ble_eq_true rfl, Nat.le_of_ble_eq_true rfl⟩ ⟨Nat.le_of_ble_eq_true rfl, Nat.le_of_ble_eq_true rfl⟩) hH (fun H locs hH => ?_)
        exact hp_rl hx hb hr hlocks hS hH (⟨rfl, rfl, rfl⟩) dX3_checkedOctetsOf_51
      · have c_10 : ¬ (n ≤ i) := fun z => c_10 ((nI_leI (by omega) (by omega)).mpr z)
        refine lv_iload_n hx hb dX3_checkedOctetsOf_13 rfl (lv_at hl 2 rfl) ?_
        refine lv_lload_n hx hb dX3_checkedOctetsOf_14 rfl (lv_at hl 0 rfl) ?_
        refine lv_bipush (v := nI 8) hx hb dX3_checkedOctetsOf_15 (by decide) ?_
        refine lv_iload hx hb dX3_checkedOctetsOf_17 (lv_at hl 3 rfl) ?_
        refine lv_imul hx hb dX3_checkedOctetsOf_19 ?_
        refine hp_eqi (z := nI (8 * i)) (pk_mul _ _) ?_
        refine lv_lushr hx hb dX3_checkedOctetsOf_20 rfl ?_
        refine hp_eql (z := lN (B / 2 ^ (8 * i))) (wb_shr (Nat.lt_trans hB2 (by decide)) (by omega)) ?_
        refine lv_l2i hx hb dX3_checkedOctetsOf_21 rfl ?_
        refine hp_eqi (z := nI (B / 2 ^ (8 * i))) (lN_i _) ?_
        refine lv_sipush (v := nI 255) hx hb dX3_checkedOctetsOf_22 (by decide) ?_
        refine lv_iand hx hb dX3_checkedOctetsOf_25 ?_
        refine hp_eqi (z := nI (B / 2 ^ (8 * i) % 256)) (pk_andN (Nat.lt_of_le_of_lt (Nat.div_le_self _ _) hB2) 8 (by decide)) ?_
        refine hp_kip (hp_runS (As := [.int (nI (crcB B i)), .int (nI (B / 2 ^ (8 * i) % 256))]) (rest := []) hx hb hml hown hS hH (c_X3_checkStep l X (x := crcB B i) (b := B / 2 ^ (8 * i) % 256) (crcB_lt B i) (Nat.mod_lt _ (by decide))) M_X3_20 S_X3_checkStep rfl hl.1 rfl (Nat.le_of_ble_eq_true rfl) dX3_checkedOctetsOf_26 ⟨Nat.le_of_ble_eq_true rfl, Nat.le_of_ble_eq_true rfl⟩ ⟨Nat.le_of_ble_eq_true rfl, Nat.le_of_ble_eq_true rfl⟩) hH (fun H locs hH => ?_)
        refine lv_istore_n (lv' := [(3, .int (nI (crcB B (i + 1)))), (0, .long (lN B)), (2, .int (nI n)), (4, .int (nI i))]) hx hb dX3_checkedOctetsOf_29 rfl hl (by decide) rfl (fun ls hl => ?_)
        refine lv_iinc (v := nI (i + 1)) (lv' := [(4, .int (nI (i + 1))), (3, .int (nI (crcB B (i + 1)))), (0, .long (lN B)), (2, .int (nI n))]) hx hb dX3_checkedOctetsOf_30 hl (k := 3) rfl (nI_add _ 1) (by decide) rfl (fun ls hl => ?_)
        refine lv_goto (tgt := 7) hx hb dX3_checkedOctetsOf_33 (by decide) ?_
        exact ih (i + 1) (by omega) (by omega) _ _ _  hH (lv_sub hl [2, 3, 1, 0] rfl)
  exact lp_7 ((n - 0) + 1) 0 (Nat.zero_le _) (Nat.lt_succ_self _) _ _ _  hH (lv_sub hl [2, 3, 1, 0] rfl)

set_option maxHeartbeats 4000000 in
set_option maxRecDepth 100000 in
theorem c_X8_beginsWithOctets (l : Launch) (X : hp_X) {μ : hp_M} {nx : Nat} {r b room size : Nat} {rb : Nat → Nat} {n : Nat} (h01 : ∀ j, rb j < 2) (hr1 : room < 2 ^ 30) (hn1 : n < 2 ^ 20) (hs1 : size ≤ room) (f_r : μ r = some (hp_o 4 [.ref b, .int (nI size)])) (f_b : μ b = some (hp_n X room rb)) : Ct l X yX8_beginsWithOctets cX8_beginsWithOctets 3 (some FieldType.boolean) 1 40 0 0 [.ref r, .int (nI n)] μ nx (hq_i X (po_i nx (nB (begN rb size n)) (fun z => z = μ))) := by
  refine hp_met (by decide) (Nat.le_of_ble_eq_true rfl) ?_
  intro p e s m below meth c ls hx hb hml hr hlocks hown hin hS hH hl
  have hl : lv_has ls 3 [(0, .ref r), (1, .int (nI n))] := hl
  refine lv_iconst (v := nI 0) hx hb dX8_beginsWithOctets_0 (by decide) ?_
  refine lv_istore_n (lv' := [(2, .int (nI 0)), (0, .ref r), (1, .int (nI n))]) hx hb dX8_beginsWithOctets_1 rfl hl (by decide) rfl (fun ls hl => ?_)
  have lp_2 : ∀ (kk : Nat) (i : Nat), (i ≤ n) → (begN rb size i = true) → (n - i) < kk → ∀ (H : Heap) (locs : List Loc) (ls : Array Slot), hp_w X cls μ nx H locs → lv_has ls 3 [(0, .ref r), (1, .int (nI n)), (2, .int (nI i))] → W p l e { frames := 1, cells := 0, slots := 0, locals := 40 } s m [.ref r, .int (nI n)].toArray below meth c H locs 0 0 (MQ below (hq_i X (po_i nx (nB (begN rb size n)) (fun z => z = μ))) [.ref r, .int (nI n)].toArray s 0 0 (hp_A X)) (F0 m 2 ls []) := by
    intro kk
    induction kk with
    | zero =>
      intro i hi hbg hkk
      exact absurd hkk (Nat.not_lt_zero _)
    | succ kk ih =>
      intro i hi hbg hkk H locs ls  hH hl
      refine lv_iload_n hx hb dX8_beginsWithOctets_2 rfl (lv_at hl 2 rfl) ?_
      refine lv_iload_n hx hb dX8_beginsWithOctets_3 rfl (lv_at hl 1 rfl) ?_
      refine lv_icmp_ge (tgt := 33) hx hb dX8_beginsWithOctets_4 (by decide) (fun c_4 => ?_) (fun c_4 => ?_)
      · have c_4 : n ≤ i := (nI_leI (by omega) (by omega)).mp c_4
        refine lv_iconst (v := nI 1) hx hb dX8_beginsWithOctets_33 (by decide) ?_
        refine hp_eqi (z := nB true) (by decide) ?_
        exact hp_rz hx hb hr hlocks hS hH (nB_nar _) (⟨rfl, congrArg nB (by rw [← hbg, show i = n by omega]), rfl⟩) dX8_beginsWithOctets_34
      · have c_4 : ¬ (n ≤ i) := fun z => c_4 ((nI_leI (by omega) (by omega)).mpr z)
        refine lv_aload_n hx hb dX8_beginsWithOctets_7 rfl (lv_at hl 0 rfl) ?_
        refine lv_bipush (v := nI 9) hx hb dX8_beginsWithOctets_8 (by decide) ?_
        refine lv_iload_n hx hb dX8_beginsWithOctets_10 rfl (lv_at hl 2 rfl) ?_
        refine lv_imul hx hb dX8_beginsWithOctets_11 ?_
        refine hp_eqi (z := nI (9 * i)) (pk_mul _ _) ?_
        refine lv_bipush (v := nI 9) hx hb dX8_beginsWithOctets_12 (by decide) ?_
        refine hp_kip (hp_runV (As := [.int (nI (9 * i)), .int (nI 9)]) (rest := []) hx hb hml hown hS hH (c_X8_valueAt l X (fm := 9 * i) (n := 9) h01 hr1 (by omega) (by omega) hs1 f_r f_b) M_X8_37 I_X8_valueAt V_X8_valueAt (ci := 4) rfl rfl f_r rfl hl.1 rfl (Nat.le_of_ble_eq_true rfl) dX8_beginsWithOctets_14 ⟨Nat.le_of_ble_eq_true rfl, Nat.le_of_ble_eq_true rfl⟩ ⟨Nat.le_of_ble_eq_true rfl, Nat.le_of_ble_eq_true rfl⟩) hH (fun H locs hH => ?_)
        refine hp_kip (hp_runS (As := [.int (nI (valN rb size (9 * i) 9))]) (rest := []) hx hb hml hown hS hH (c_J6_bitCount_0f7a4 l X (v := valN rb size (9 * i) 9) (valN_lt h01 _ _ 9)) M_X8_41 S_J6_bitCount_0f7a4 rfl hl.1 rfl (Nat.le_of_ble_eq_true rfl) dX8_beginsWithOctets_17 ⟨Nat.le_of_ble_eq_true rfl, Nat.le_of_ble_eq_true rfl⟩ ⟨Nat.le_of_ble_eq_true rfl, Nat.le_of_ble_eq_true rfl⟩) hH (fun H locs hH => ?_)
        have hpo := popN_le 9 (valN rb size (9 * i) 9)
        refine lv_iconst (v := nI 2) hx hb dX8_beginsWithOctets_20 (by decide) ?_
        refine lv_irem hx hb dX8_beginsWithOctets_21 (nI_ne0 (by omega) (by omega)) ?_
        refine hp_eqi (z := nI ((popN 9 (valN rb size (9 * i) 9)) % 2)) (pk_rem (by omega) (by omega) (by omega)) ?_
        refine lv_if_ne (tgt := 27) hx hb dX8_beginsWithOctets_22 (by decide) (fun c_22 => ?_) (fun c_22 => ?_)
        · have c_22 : ¬ ((popN 9 (valN rb size (9 * i) 9)) % 2 = 0) := nz_n (by omega) c_22
          refine lv_iinc (v := nI (i + 1)) (lv' := [(2, .int (nI (i + 1))), (0, .ref r), (1, .int (nI n))]) hx hb dX8_beginsWithOctets_27 hl (k := 2) rfl (nI_add _ 1) (by decide) rfl (fun ls hl => ?_)
          refine lv_goto (tgt := 2) hx hb dX8_beginsWithOctets_30 (by decide) ?_
          exact ih (i + 1) (by omega) (by simp only [begN, hbg, Bool.true_and, decide_eq_true_eq]; omega) (by omega) _ _ _  hH (lv_sub hl [1, 2, 0] rfl)
        · have c_22 : ((popN 9 (valN rb size (9 * i) 9)) % 2) = 0 := nz_0 (by omega) c_22
          refine lv_iconst (v := nI 0) hx hb dX8_beginsWithOctets_25 (by decide) ?_
          refine hp_eqi (z := nB false) (by decide) ?_
          exact hp_rz hx hb hr hlocks hS hH (nB_nar _) (⟨rfl, congrArg nB (Eq.symm (begN_false (i := i + 1) (by simp only [begN, hbg, Bool.true_and]; simp [c_22]) n (by omega))), rfl⟩) dX8_beginsWithOctets_26
  exact lp_2 ((n - 0) + 1) 0 (Nat.zero_le _) rfl (Nat.lt_succ_self _) _ _ _  hH (lv_sub hl [1, 2, 0] rfl)

set_option maxHeartbeats 4000000 in
set_option maxRecDepth 100000 in
theorem c_X8_checkOf (l : Launch) (X : hp_X) {μ : hp_M} {nx : Nat} {r b room size : Nat} {rb : Nat → Nat} {n : Nat} (h01 : ∀ j, rb j < 2) (hr1 : room < 2 ^ 30) (hn1 : n < 2 ^ 20) (hs1 : size ≤ room) (f_r : μ r = some (hp_o 4 [.ref b, .int (nI size)])) (f_b : μ b = some (hp_n X room rb)) : Ct l X yX8_checkOf cX8_checkOf 4 (some FieldType.int) 1 40 0 0 [.ref r, .int (nI n)] μ nx (hq_i X (po_i nx (nI (crcN rb size n)) (fun z => z = μ))) := by
  refine hp_met (by decide) (Nat.le_of_ble_eq_true rfl) ?_
  intro p e s m below meth c ls hx hb hml hr hlocks hown hin hS hH hl
  have hl : lv_has ls 4 [(0, .ref r), (1, .int (nI n))] := hl
  refine lv_sipush (v := nI 25443) hx hb dX8_checkOf_0 (by decide) ?_
  refine lv_istore_n (lv' := [(2, .int (nI 25443)), (0, .ref r), (1, .int (nI n))]) hx hb dX8_checkOf_3 rfl hl (by decide) rfl (fun ls hl => ?_)
  refine lv_iconst (v := nI 0) hx hb dX8_checkOf_4 (by decide) ?_
  refine lv_istore_n (lv' := [(3, .int (nI 0)), (2, .int (nI 25443)), (0, .ref r), (1, .int (nI n))]) hx hb dX8_checkOf_5 rfl hl (by decide) rfl (fun ls hl => ?_)
  have lp_6 : ∀ (kk : Nat) (i : Nat), (i ≤ n) → (n - i) < kk → ∀ (H : Heap) (locs : List Loc) (ls : Array Slot), hp_w X cls μ nx H locs → lv_has ls 4 [(0, .ref r), (1, .int (nI n)), (2, .int (nI (crcN rb size i))), (3, .int (nI i))] → W p l e { frames := 1, cells := 0, slots := 0, locals := 40 } s m [.ref r, .int (nI n)].toArray below meth c H locs 0 0 (MQ below (hq_i X (po_i nx (nI (crcN rb size n)) (fun z => z = μ))) [.ref r, .int (nI n)].toArray s 0 0 (hp_A X)) (F0 m 6 ls []) := by
    intro kk
    induction kk with
    | zero =>
      intro i hi hkk
      exact absurd hkk (Nat.not_lt_zero _)
    | succ kk ih =>
      intro i hi hkk H locs ls  hH hl
      refine lv_iload_n hx hb dX8_checkOf_6 rfl (lv_at hl 3 rfl) ?_
      refine lv_iload_n hx hb dX8_checkOf_7 rfl (lv_at hl 1 rfl) ?_
      refine lv_icmp_ge (tgt := 32) hx hb dX8_checkOf_8 (by decide) (fun c_8 => ?_) (fun c_8 => ?_)
      · have c_8 : n ≤ i := (nI_leI (by omega) (by omega)).mp c_8
        refine lv_iload_n hx hb dX8_checkOf_32 rfl (lv_at hl 2 rfl) ?_
        exact hp_ri hx hb hr hlocks hS hH (⟨rfl, by rw [show i = n by omega], rfl⟩) dX8_checkOf_33
      · have c_8 : ¬ (n ≤ i) := fun z => c_8 ((nI_leI (by omega) (by omega)).mpr z)
        refine lv_iload_n hx hb dX8_checkOf_11 rfl (lv_at hl 2 rfl) ?_
        refine lv_aload_n hx hb dX8_checkOf_12 rfl (lv_at hl 0 rfl) ?_
        refine lv_bipush (v := nI 9) hx hb dX8_checkOf_13 (by decide) ?_
        refine lv_iload_n hx hb dX8_checkOf_15 rfl (lv_at hl 3 rfl) ?_
        refine lv_imul hx hb dX8_checkOf_16 ?_
        refine hp_eqi (z := nI (9 * i)) (pk_mul _ _) ?_
        refine lv_bipush (v := nI 8) hx hb dX8_checkOf_17 (by decide) ?_
        refine hp_kip (hp_runV (As := [.int (nI (9 * i)), .int (nI 8)]) (rest := [.int (nI (crcN rb size i))]) hx hb hml hown hS hH (c_X8_valueAt l X (fm := 9 * i) (n := 8) h01 hr1 (by omega) (by omega) hs1 f_r f_b) M_X8_37 I_X8_valueAt V_X8_valueAt (ci := 4) rfl rfl f_r rfl hl.1 rfl (Nat.le_of_ble_eq_true rfl) dX8_checkOf_19 ⟨Nat.le_of_ble_eq_true rfl, Nat.le_of_ble_eq_true rfl⟩ ⟨Nat.le_of_ble_eq_true rfl, Nat.le_of_ble_eq_true rfl⟩) hH (fun H locs hH => ?_)
        refine hp_kip (hp_runS (As := [.int (nI (crcN rb size i)), .int (nI (valN rb size (9 * i) 8))]) (rest := []) hx hb hml hown hS hH (c_X3_checkStep l X (crcN_lt rb size i) (valN_lt h01 _ _ 8)) M_X8_46 S_X3_checkStep rfl hl.1 rfl (Nat.le_of_ble_eq_true rfl) dX8_checkOf_22 ⟨Nat.le_of_ble_eq_true rfl, Nat.le_of_ble_eq_true rfl⟩ ⟨Nat.le_of_ble_eq_true rfl, Nat.le_of_ble_eq_true rfl⟩) hH (fun H locs hH => ?_)
        refine lv_istore_n (lv' := [(2, .int (nI (crcN rb size (i + 1)))), (0, .ref r), (1, .int (nI n)), (3, .int (nI i))]) hx hb dX8_checkOf_25 rfl hl (by decide) rfl (fun ls hl => ?_)
        refine lv_iinc (v := nI (i + 1)) (lv' := [(3, .int (nI (i + 1))), (2, .int (nI (crcN rb size (i + 1)))), (0, .ref r), (1, .int (nI n))]) hx hb dX8_checkOf_26 hl (k := 3) rfl (nI_add _ 1) (by decide) rfl (fun ls hl => ?_)
        refine lv_goto (tgt := 6) hx hb dX8_checkOf_29 (by decide) ?_
        exact ih (i + 1) (by omega) (by omega) _ _ _  hH (lv_sub hl [2, 3, 1, 0] rfl)
  exact lp_6 ((n - 0) + 1) 0 (Nat.zero_le _) (Nat.lt_succ_self _) _ _ _  hH (lv_sub hl [2, 3, 1, 0] rfl)

set_option maxHeartbeats 4000000 in
set_option maxRecDepth 100000 in
theorem c_X8_addOctet (l : Launch) (X : hp_X) {μ : hp_M} {nx : Nat} {r b room size : Nat} {rb : Nat → Nat} {v : Int32} (hr1 : room < 2 ^ 30) (hs1 : size + 9 ≤ room) (f_r : μ r = some (hp_o 4 [.ref b, .int (nI size)])) (f_b : μ b = some (hp_n X room rb)) : Ct l X yX8_addOctet cX8_addOctet 2 (none : Option Jvm.ClassFile.FieldType) 2 80 0 0 [.ref r, .int v] μ nx (hq_v X (po_v nx (fun z => z r = some (hp_o 4 [.ref b, .int (nI (size + 9))]) ∧ z b = some (hp_n X room (apB rb size (nI (octB (byI v))) 9)) ∧ hp_eq [r, b] z μ))) := by
  refine hp_met (by decide) (Nat.le_of_ble_eq_true rfl) ?_
  intro p e s m below meth c ls hx hb hml hr hlocks hown hin hS hH hl
  have hl : lv_has ls 2 [(0, .ref r), (1, .int v)] := hl
  have fr : hp_eq [r, b] μ μ := fun _ _ => rfl
  refine lv_aload_n hx hb dX8_addOctet_0 rfl (lv_at hl 0 rfl) ?_
  refine lv_iload_n hx hb dX8_addOctet_1 rfl (lv_at hl 1 rfl) ?_
  obtain ⟨B, hB, eB, hm⟩ := z_i2l v
  refine lv_i2l hx hb dX8_addOctet_2 rfl ?_
  refine hp_eql (z := lN B) (eB) ?_
  refine lv_iconst (v := nI 1) hx hb dX8_addOctet_3 (by decide) ?_
  refine hp_klp (hp_runS (As := [.long (lN B), .int (nI 1)]) (rest := [.ref r]) hx hb hml hown hS hH (c_X3_octetsOf l X (B := B) (n := 1) hB (by decide)) M_X8_19 S_X3_octetsOf rfl hl.1 rfl (Nat.le_of_ble_eq_true rfl) dX8_addOctet_4 ⟨Nat.le_of_ble_eq_true rfl, Nat.le_of_ble_eq_true rfl⟩ ⟨Nat.le_of_ble_eq_true rfl, Nat.le_of_ble_eq_true rfl⟩) hH (fun H locs hH => ?_)
  refine lv_l2i hx hb dX8_addOctet_7 rfl ?_
  refine hp_eqi (z := nI (octB (byI v))) (by rw [lN_i, ← hm]; simp [octN]) ?_
  refine lv_bipush (v := nI 9) hx hb dX8_addOctet_8 (by decide) ?_
  refine hp_kvm (hp_runV (As := [.int (nI (octB (byI v))), .int (nI 9)]) (rest := []) hx hb hml hown hS hH (c_X8_addBits l X (n := 9) hr1 (by decide) hs1 f_r f_b) M_X8_25 I_X8_addBits V_X8_addBits (ci := 4) rfl rfl f_r rfl hl.1 rfl (Nat.le_of_ble_eq_true rfl) dX8_addOctet_10 ⟨Nat.le_of_ble_eq_true rfl, Nat.le_of_ble_eq_true rfl⟩ ⟨Nat.le_of_ble_eq_true rfl, Nat.le_of_ble_eq_true rfl⟩) hH (fun μ1 H locs hp hH => ?_)
  obtain ⟨fz0, fz1, fe⟩ := hp
  have f_r : μ1 r = some (hp_o 4 [.ref b, .int (nI (size + 9))]) := fz0
  have f_b : μ1 b = some (hp_n X room (apB rb size (nI (octB (byI v))) 9)) := fz1
  have fr := hp_eq.tr2 fe fr (by simp) (by simp)
  clear fe fz0 fz1
  exact hp_rv hx hb hr hlocks hS hH (⟨rfl, f_r, f_b, fr⟩) dX8_addOctet_13

set_option maxHeartbeats 4000000 in
set_option maxRecDepth 100000 in
theorem c_X8_addCheck (l : Launch) (X : hp_X) {μ : hp_M} {nx : Nat} {r b room size : Nat} {rb : Nat → Nat} (h01 : ∀ j, rb j < 2) (hr1 : room < 2 ^ 20) (hs1 : size + 18 ≤ room) (f_r : μ r = some (hp_o 4 [.ref b, .int (nI size)])) (f_b : μ b = some (hp_n X room rb)) : Ct l X yX8_addCheck cX8_addCheck 2 (none : Option Jvm.ClassFile.FieldType) 3 120 0 0 [.ref r] μ nx (hq_v X (po_v nx (fun z => z r = some (hp_o 4 [.ref b, .int (nI (size + 9 + 9))]) ∧ z b = some (hp_n X room (apB (apB rb size (nI (octB (crcN rb size (size / 9) % 256))) 9) (size + 9) (nI (octB (crcN rb size (size / 9) / 256))) 9)) ∧ hp_eq [r, b] z μ))) := by
  refine hp_met (by decide) (Nat.le_of_ble_eq_true rfl) ?_
  intro p e s m below meth c ls hx hb hml hr hlocks hown hin hS hH hl
  have hl : lv_has ls 2 [(0, .ref r)] := hl
  have fr : hp_eq [r, b] μ μ := fun _ _ => rfl
  have hr1 : room < 2 ^ 30 := by omega
  refine lv_aload_n hx hb dX8_addCheck_0 rfl (lv_at hl 0 rfl) ?_
  refine lv_aload_n hx hb dX8_addCheck_1 rfl (lv_at hl 0 rfl) ?_
  refine hp_get hx hb hown hS.2.1 hH (F_X8_15.use hS) f_r rfl dX8_addCheck_2 ?_
  refine lv_bipush (v := nI 9) hx hb dX8_addCheck_5 (by decide) ?_
  refine lv_idiv hx hb dX8_addCheck_7 (nI_ne0 (by omega) (by omega)) ?_
  refine hp_eqi (z := nI (size / 9)) (pk_div (by omega) (by omega) (by omega)) ?_
  refine hp_kip (hp_runV (As := [.int (nI (size / 9))]) (rest := []) hx hb hml hown hS hH (c_X8_checkOf l X (n := size / 9) h01 hr1 (by omega) (by omega) f_r f_b) M_X8_29 I_X8_checkOf V_X8_checkOf (ci := 4) rfl rfl f_r rfl hl.1 rfl (Nat.le_of_ble_eq_true rfl) dX8_addCheck_8 ⟨Nat.le_of_ble_eq_true rfl, Nat.le_of_ble_eq_true rfl⟩ ⟨Nat.le_of_ble_eq_true rfl, Nat.le_of_ble_eq_true rfl⟩) hH (fun H locs hH => ?_)
  have hcl := crcN_lt rb size (size / 9)
  refine lv_istore_n (lv' := [(1, .int (nI (crcN rb size (size / 9)))), (0, .ref r)]) hx hb dX8_addCheck_11 rfl hl (by decide) rfl (fun ls hl => ?_)
  refine lv_aload_n hx hb dX8_addCheck_12 rfl (lv_at hl 1 rfl) ?_
  refine lv_iload_n hx hb dX8_addCheck_13 rfl (lv_at hl 0 rfl) ?_
  refine hp_kvm (hp_runV (As := [.int (nI (crcN rb size (size / 9)))]) (rest := []) hx hb hml hown hS hH (c_X8_addOctet l X hr1 (by omega) f_r f_b) M_X8_33 I_X8_addOctet V_X8_addOctet (ci := 4) rfl rfl f_r rfl hl.1 rfl (Nat.le_of_ble_eq_true rfl) dX8_addCheck_14 ⟨Nat.le_of_ble_eq_true rfl, Nat.le_of_ble_eq_true rfl⟩ ⟨Nat.le_of_ble_eq_true rfl, Nat.le_of_ble_eq_true rfl⟩) hH (fun μ1 H locs hp hH => ?_)
  obtain ⟨fz0, fz1, fe⟩ := hp
  have f_r : μ1 r = some (hp_o 4 [.ref b, .int (nI (size + 9))]) := fz0
  have f_b : μ1 b = some (hp_n X room (apB rb size (nI (octB (byI (nI (crcN rb size (size / 9)))))) 9)) := fz1
  have fr := hp_eq.tr2 fe fr (by simp) (by simp)
  clear fe fz0 fz1
  have f_b := f_b.trans (congrArg (fun g => some (hp_n X room g)) (show apB rb size (nI (octB (byI (nI (crcN rb size (size / 9)))))) 9 = apB rb size (nI (octB (crcN rb size (size / 9) % 256))) 9 from by rw [byI_n (by omega)]))
  refine lv_aload_n hx hb dX8_addCheck_17 rfl (lv_at hl 1 rfl) ?_
  refine lv_iload_n hx hb dX8_addCheck_18 rfl (lv_at hl 0 rfl) ?_
  refine lv_bipush (v := nI 8) hx hb dX8_addCheck_19 (by decide) ?_
  refine lv_iushr hx hb dX8_addCheck_21 rfl ?_
  refine hp_eqi (z := nI (crcN rb size (size / 9) / 256)) (pk_ushrN (by omega) _ 8 (by decide)) ?_
  refine hp_kvm (hp_runV (As := [.int (nI (crcN rb size (size / 9) / 256))]) (rest := []) hx hb hml hown hS hH (c_X8_addOctet l X hr1 (by omega) f_r f_b) M_X8_33 I_X8_addOctet V_X8_addOctet (ci := 4) rfl rfl f_r rfl hl.1 rfl (Nat.le_of_ble_eq_true rfl) dX8_addCheck_22 ⟨Nat.le_of_ble_eq_true rfl, Nat.le_of_ble_eq_true rfl⟩ ⟨Nat.le_of_ble_eq_true rfl, Nat.le_of_ble_eq_true rfl⟩) hH (fun μ1 H locs hp hH => ?_)
  obtain ⟨fz0, fz1, fe⟩ := hp
  have f_r : μ1 r = some (hp_o 4 [.ref b, .int (nI (size + 9 + 9))]) := fz0
  have f_b : μ1 b = some (hp_n X room (apB (apB rb size (nI (octB (crcN rb size (size / 9) % 256))) 9) (size + 9) (nI (octB (byI (nI (crcN rb size (size / 9) / 256))))) 9)) := fz1
  have fr := hp_eq.tr2 fe fr (by simp) (by simp)
  clear fe fz0 fz1
  have f_b := f_b.trans (congrArg (fun g => some (hp_n X room g)) (show apB (apB rb size (nI (octB (crcN rb size (size / 9) % 256))) 9) (size + 9) (nI (octB (byI (nI (crcN rb size (size / 9) / 256))))) 9 = apB (apB rb size (nI (octB (crcN rb size (size / 9) % 256))) 9) (size + 9) (nI (octB (crcN rb size (size / 9) / 256))) 9 from by rw [show byI (nI (crcN rb size (size / 9) / 256)) = crcN rb size (size / 9) / 256 from by rw [byI_n (by omega)]; omega]))
  exact hp_rv hx hb hr hlocks hS hH (⟨rfl, f_r, f_b, fr⟩) dX8_addCheck_25

set_option maxHeartbeats 4000000 in
set_option maxRecDepth 100000 in
theorem c_X8_init (l : Launch) (X : hp_X) {μ : hp_M} {nx : Nat} {r room : Nat} (hr1 : room < 2 ^ 20) (f_r : μ r = some (hp_o 4 [.null, .int (nI 0)])) : Ct l X yX8_init cX8_init 2 (none : Option Jvm.ClassFile.FieldType) 1 40 1 room [.ref r, .int (nI room)] μ nx (hq_v X (po_v (nx + 1) (fun z => z r = some (hp_o 4 [.ref nx, .int (nI 0)]) ∧ z nx = some (hp_n X room (fun _ => 0)) ∧ hp_eq [r, nx] z μ))) := by
  refine hp_met (by decide) (Nat.le_of_ble_eq_true rfl) ?_
  intro p e s m below meth c ls hx hb hml hr hlocks hown hin hS hH hl
  have hl : lv_has ls 2 [(0, .ref r), (1, .int (nI room))] := hl
  have fr : hp_eq [r, nx] μ μ := fun _ _ => rfl
  have hlt_r := hH.lt f_r
  refine lv_aload_n hx hb dX8_init_0 rfl (lv_at hl 0 rfl) ?_
  refine hp_obj hx hb hml hown hS ol_X8_3 hl.1 dX8_init_1 (Nat.le_of_ble_eq_true rfl) (Nat.le_of_ble_eq_true rfl) (Nat.le_of_ble_eq_true rfl) ?_
  refine lv_aload_n hx hb dX8_init_4 rfl (lv_at hl 0 rfl) ?_
  refine lv_iload_n hx hb dX8_init_5 rfl (lv_at hl 1 rfl) ?_
  have hO := hH
  refine hp_newi hx hb (hS.1 _ wi_88 _) hS.ni hH (nI_pos (by omega)) (nI_clamp (by omega)) (by omega) (Nat.le_of_ble_eq_true rfl) (by show 0 + room ≤ room; omega) dX8_init_6 (fun H μ1 fz fn hH => ?_)
  have f_r := (fn _ (Nat.ne_of_lt (hO.lt f_r))).trans f_r
  have f_n0 : μ1 nx = some (hp_n X room (fun _ => 0)) := fz
  have fr := hp_eq.put fr (by simp) fn
  clear fz fn hO
  refine hp_putF hx hb hown hS.2.1 hH (P_X8_9.use hS) hin f_r rfl rfl (Nat.le_of_ble_eq_true rfl) dX8_init_8 (fun H locs μ1 fz fn hH => ?_)
  have f_n0 := (fn _ (by omega)).trans f_n0
  have f_r : μ1 r = some (hp_o 4 [.ref nx, .int (nI 0)]) := fz
  have fr := hp_eq.put fr (by simp) fn
  clear fz fn
  refine W.widen (k := 1) (n := room) (by omega) (by omega) ?_
  exact hp_rv hx hb hr hlocks hS hH (⟨rfl, f_r, f_n0, fr⟩) dX8_init_11
end
section
section HPG
variable {p : Program} {l : Launch} {e : Env} {R : Room} {s : State} {m : MethodId} {args : Array Value} {below : List Frame} {meth : Method} {c : Code} {H : Heap} {locs : List Loc} {cells slots : Nat} {Q : State → Prop}
variable {cc : ByteArray} {pc : Nat} {ls : Array Slot} {rest : List Value} {X : hp_X} {nx index : Nat} {own : String} {μ : hp_M}
theorem hp_gets (hx : p.tables.exec = Jvm.exec) (hb : c.code = cc) {C n d : String} {v : Value} (hZ : va_Z C n d v (hp_A X) s X.2.1) (hH : hp_w X cls μ nx H locs) (hown : s.vm.findClass own = some m.cls) (hk : Cond.fieldLink own index C n d ∈ tb) (hS : KS X s) (hdg : decode cc pc = .ok (.getstatic index, 3))
    (kk : W p l e R s m args below meth c H locs cells slots Q (F0 m (pc + 3) ls (v :: rest))) : W p l e R s m args below meth c H locs cells slots Q (F0 m pc ls rest) := by
  obtain ⟨cf, kf, fi, f, a, cell, h1, h2, h3, h4, h5, h6, h7, h8⟩ := hZ
  exact W.gets hx hb hown (hS.1 _ hk _) h1 h2 h3 h4 (by rw [hH.2.2.1 a (Nat.not_le.mp h8)]; exact h5) (fun e => by rw [e] at h6; cases h6) h7 rfl hdg kk
end HPG
theorem KS.k0 {X : hp_X} {s : State} (h : KS X s) : va_Z RX5 "BAD" "LTagField$Kind;" (.ref (X.2.2.2 0)) (hp_A X) s X.2.1 := (h.2.2.1.1 0 (by decide)).1
theorem KS.k1 {X : hp_X} {s : State} (h : KS X s) : va_Z RX5 "REQUEST" "LTagField$Kind;" (.ref (X.2.2.2 1)) (hp_A X) s X.2.1 := (h.2.2.1.1 1 (by decide)).1
theorem KS.k2 {X : hp_X} {s : State} (h : KS X s) : va_Z RX5 "WAKE" "LTagField$Kind;" (.ref (X.2.2.2 2)) (hp_A X) s X.2.1 := (h.2.2.1.1 2 (by decide)).1
theorem KS.k3 {X : hp_X} {s : State} (h : KS X s) : va_Z RX5 "SEARCH" "LTagField$Kind;" (.ref (X.2.2.2 3)) (hp_A X) s X.2.1 := (h.2.2.1.1 3 (by decide)).1
theorem KS.k4 {X : hp_X} {s : State} (h : KS X s) : va_Z RX5 "CHOOSE" "LTagField$Kind;" (.ref (X.2.2.2 4)) (hp_A X) s X.2.1 := (h.2.2.1.1 4 (by decide)).1
theorem KS.k5 {X : hp_X} {s : State} (h : KS X s) : va_Z RX5 "HALT" "LTagField$Kind;" (.ref (X.2.2.2 5)) (hp_A X) s X.2.1 := (h.2.2.1.1 5 (by decide)).1
theorem KS.k6 {X : hp_X} {s : State} (h : KS X s) : va_Z RX5 "ACTIVATE" "LTagField$Kind;" (.ref (X.2.2.2 6)) (hp_A X) s X.2.1 := (h.2.2.1.1 6 (by decide)).1
theorem KS.k7 {X : hp_X} {s : State} (h : KS X s) : va_Z RX5 "RELEASE" "LTagField$Kind;" (.ref (X.2.2.2 7)) (hp_A X) s X.2.1 := (h.2.2.1.1 7 (by decide)).1
theorem KS.r0 {X : hp_X} {s : State} (h : KS X s) : va_Z RX7 "NOTHING" "LTagField$Reply;" (.ref (X.2.2.2 8)) (hp_A X) s X.2.1 := (h.2.2.2.1.1 0 (by decide)).1
theorem KS.r1 {X : hp_X} {s : State} (h : KS X s) : va_Z RX7 "A" "LTagField$Reply;" (.ref (X.2.2.2 9)) (hp_A X) s X.2.1 := (h.2.2.2.1.1 1 (by decide)).1
theorem KS.r2 {X : hp_X} {s : State} (h : KS X s) : va_Z RX7 "REST" "LTagField$Reply;" (.ref (X.2.2.2 10)) (hp_A X) s X.2.1 := (h.2.2.2.1.1 2 (by decide)).1
theorem KS.r3 {X : hp_X} {s : State} (h : KS X s) : va_Z RX7 "B_MORE" "LTagField$Reply;" (.ref (X.2.2.2 11)) (hp_A X) s X.2.1 := (h.2.2.2.1.1 3 (by decide)).1
theorem KS.r4 {X : hp_X} {s : State} (h : KS X s) : va_Z RX7 "B_LAST" "LTagField$Reply;" (.ref (X.2.2.2 12)) (hp_A X) s X.2.1 := (h.2.2.2.1.1 4 (by decide)).1
theorem KS.r5 {X : hp_X} {s : State} (h : KS X s) : va_Z RX7 "C" "LTagField$Reply;" (.ref (X.2.2.2 13)) (hp_A X) s X.2.1 := (h.2.2.2.1.1 5 (by decide)).1
theorem KS.r6 {X : hp_X} {s : State} (h : KS X s) : va_Z RX7 "D" "LTagField$Reply;" (.ref (X.2.2.2 14)) (hp_A X) s X.2.1 := (h.2.2.2.1.1 6 (by decide)).1
theorem KS.sw {X : hp_X} {s : State} (h : KS X s) : va_Z RX0 "$SwitchMap$TagField$Reply" "[I" (.ref (X.2.2.2 15)) (hp_A X) s X.2.1 := h.2.2.2.2.1
theorem KS.em {X : hp_X} {s : State} (h : KS X s) : va_Z RJx4a65c "DEFAULTCAPACITY_EMPTY_ELEMENTDATA" "[Ljava/lang/Object;" (.ref (X.2.2.2 16)) (hp_A X) s X.2.1 := h.2.2.2.2.2.2.1
theorem KS.ki {X : hp_X} {s : State} (h : KS X s) {i j : Nat} (hi : i < 8) (hj : j < 8) (e : X.2.2.2 i = X.2.2.2 j) : i = j := h.2.2.1.2 i j hi hj e
theorem G_Jx4a65c_39 : Cond.fieldLink RJx4a65c 39 RJx4a65c "DEFAULTCAPACITY_EMPTY_ELEMENTDATA" "[Ljava/lang/Object;" ∈ tb := tb_of (List.mem_of_getElem? (i := 124) rfl) rfl
theorem G_X4_9 : Cond.fieldLink RX4 9 RX5 "BAD" "LTagField$Kind;" ∈ tb := tb_of (List.mem_of_getElem? (i := 144) rfl) rfl
set_option maxRecDepth 20000 in
theorem G_X4_65 : Cond.fieldLink RX4 65 RX5 "REQUEST" "LTagField$Kind;" ∈ tb := tb_of (List.mem_of_getElem? (i := 476) rfl) rfl
set_option maxRecDepth 20000 in
theorem G_X4_68 : Cond.fieldLink RX4 68 RX5 "WAKE" "LTagField$Kind;" ∈ tb := tb_of (List.mem_of_getElem? (i := 478) rfl) rfl
set_option maxRecDepth 20000 in
theorem G_X4_48 : Cond.fieldLink RX4 48 RX5 "SEARCH" "LTagField$Kind;" ∈ tb := tb_of (List.mem_of_getElem? (i := 481) rfl) rfl
set_option maxRecDepth 20000 in
theorem G_X4_58 : Cond.fieldLink RX4 58 RX5 "CHOOSE" "LTagField$Kind;" ∈ tb := tb_of (List.mem_of_getElem? (i := 488) rfl) rfl
set_option maxRecDepth 20000 in
theorem G_X4_71 : Cond.fieldLink RX4 71 RX5 "HALT" "LTagField$Kind;" ∈ tb := tb_of (List.mem_of_getElem? (i := 494) rfl) rfl
set_option maxRecDepth 20000 in
theorem G_X4_74 : Cond.fieldLink RX4 74 RX5 "ACTIVATE" "LTagField$Kind;" ∈ tb := tb_of (List.mem_of_getElem? (i := 496) rfl) rfl
set_option maxRecDepth 20000 in
theorem G_X4_77 : Cond.fieldLink RX4 77 RX5 "RELEASE" "LTagField$Kind;" ∈ tb := tb_of (List.mem_of_getElem? (i := 498) rfl) rfl
set_option maxRecDepth 20000 in
theorem G_X9_51 : Cond.fieldLink RX9 51 RX5 "REQUEST" "LTagField$Kind;" ∈ tb := tb_of (List.mem_of_getElem? (i := 504) rfl) rfl
set_option maxRecDepth 20000 in
theorem G_X9_56 : Cond.fieldLink RX9 56 RX5 "WAKE" "LTagField$Kind;" ∈ tb := tb_of (List.mem_of_getElem? (i := 505) rfl) rfl
set_option maxRecDepth 20000 in
theorem G_X9_86 : Cond.fieldLink RX9 86 RX7 "A" "LTagField$Reply;" ∈ tb := tb_of (List.mem_of_getElem? (i := 510) rfl) rfl
set_option maxRecDepth 20000 in
theorem G_X9_63 : Cond.fieldLink RX9 63 RX7 "NOTHING" "LTagField$Reply;" ∈ tb := tb_of (List.mem_of_getElem? (i := 516) rfl) rfl
set_option maxRecDepth 20000 in
theorem G_X9_90 : Cond.fieldLink RX9 90 RX5 "SEARCH" "LTagField$Kind;" ∈ tb := tb_of (List.mem_of_getElem? (i := 522) rfl) rfl
set_option maxRecDepth 20000 in
theorem G_X9_97 : Cond.fieldLink RX9 97 RX7 "REST" "LTagField$Reply;" ∈ tb := tb_of (List.mem_of_getElem? (i := 527) rfl) rfl
set_option maxRecDepth 20000 in
theorem G_X9_100 : Cond.fieldLink RX9 100 RX5 "CHOOSE" "LTagField$Kind;" ∈ tb := tb_of (List.mem_of_getElem? (i := 529) rfl) rfl
set_option maxRecDepth 20000 in
theorem G_X9_117 : Cond.fieldLink RX9 117 RX7 "B_MORE" "LTagField$Reply;" ∈ tb := tb_of (List.mem_of_getElem? (i := 534) rfl) rfl
set_option maxRecDepth 20000 in
theorem G_X9_120 : Cond.fieldLink RX9 120 RX7 "B_LAST" "LTagField$Reply;" ∈ tb := tb_of (List.mem_of_getElem? (i := 536) rfl) rfl
set_option maxRecDepth 20000 in
theorem G_X9_123 : Cond.fieldLink RX9 123 RX5 "HALT" "LTagField$Kind;" ∈ tb := tb_of (List.mem_of_getElem? (i := 546) rfl) rfl
set_option maxRecDepth 20000 in
theorem G_X9_126 : Cond.fieldLink RX9 126 RX5 "ACTIVATE" "LTagField$Kind;" ∈ tb := tb_of (List.mem_of_getElem? (i := 547) rfl) rfl
set_option maxRecDepth 20000 in
theorem G_X9_129 : Cond.fieldLink RX9 129 RX7 "C" "LTagField$Reply;" ∈ tb := tb_of (List.mem_of_getElem? (i := 548) rfl) rfl
set_option maxRecDepth 20000 in
theorem G_X9_76 : Cond.fieldLink RX9 76 RX5 "RELEASE" "LTagField$Kind;" ∈ tb := tb_of (List.mem_of_getElem? (i := 550) rfl) rfl
set_option maxRecDepth 20000 in
theorem G_X9_79 : Cond.fieldLink RX9 79 RX7 "D" "LTagField$Reply;" ∈ tb := tb_of (List.mem_of_getElem? (i := 551) rfl) rfl
set_option maxRecDepth 20000 in
theorem G_X9_132 : Cond.fieldLink RX9 132 RX0 "$SwitchMap$TagField$Reply" "[I" ∈ tb := tb_of (List.mem_of_getElem? (i := 557) rfl) rfl
end
section
/-! pure words: answers that lie on one another, what a frame means -/
theorem z_not {B : Nat} (h : B < 2 ^ 64) : lN B ^^^ (-1) = lN (2 ^ 64 - 1 - B) := by
  apply wb_inj
  rw [Int64.toBitVec_xor, wb_tb, wb_tb, show ((-1 : Int64)).toBitVec = BitVec.allOnes 64 from rfl, BitVec.xor_allOnes]
  apply BitVec.eq_of_toNat_eq
  rw [BitVec.toNat_not, BitVec.toNat_ofNat, BitVec.toNat_ofNat, Nat.mod_eq_of_lt h, Nat.mod_eq_of_lt (by omega)]
/-- the bits below n that B has not -/
def czN (B n : Nat) : Nat := (2 ^ 64 - 1 - B) % 2 ^ n
def digN (on ze j : Nat) : Nat := if on / 2 ^ j % 2 = 1 then (if ze / 2 ^ j % 2 = 1 then 2 else 1) else 0
def lvOf (f : Nat) : Nat := if f = 147 then 1 else if f = 149 then 2 else if f = 151 then 3 else 0
theorem lvOf_le (f : Nat) : lvOf f ≤ 3 := by unfold lvOf; split <;> (try split) <;> (try split) <;> omega
def kdS (v : Nat) : Nat := if v = 38 then 1 else if v = 82 then 2 else 0
def kdC (f oc se : Nat) : Nat := if f = 80 ∧ oc = 4 ∧ se = 0 then 5 else if f = 224 ∧ oc = 4 then 6 else if f = 194 ∧ oc = 3 then 7 else 0
def rdK (rb : Nat → Nat) (size : Nat) : Nat :=
  if size = 7 then kdS (valN rb size 0 8)
  else if size / 9 < 2 ∨ begN rb size (size / 9) = false then 0
  else if 0 < lvOf (valN rb size 0 8) ∧ size / 9 ≤ 6 ∧ size % 9 ≤ 7 ∧ valN rb size 9 8 = 16 * (size / 9) + size % 9 then 3
  else if 0 < size % 9 ∨ ¬ crcN rb size (size / 9) = 0 then 0
  else if 0 < lvOf (valN rb size 0 8) ∧ size / 9 = 9 ∧ valN rb size 9 8 = 112 then 4
  else kdC (valN rb size 0 8) (size / 9) (valN rb size 9 8)
def tdB (rb : Nat → Nat) (size : Nat) : Nat → Nat
  | 0 => 0
  | n + 1 => tdB rb size n + valN rb size (9 * (2 + n)) 8 * 2 ^ (8 * n)
def tdN (rb : Nat → Nat) (size bytes over : Nat) : Nat := tdB rb size bytes + valN rb size (9 * (2 + bytes)) over * 2 ^ (8 * bytes)
theorem tdB_lt {rb : Nat → Nat} (h : ∀ j, rb j < 2) (size : Nat) : ∀ n, tdB rb size n < 2 ^ (8 * n)
  | 0 => by simp [tdB]
  | n + 1 => by
    have ih := tdB_lt h size n
    have hv := valN_lt h size (9 * (2 + n)) 8
    have h2 : valN rb size (9 * (2 + n)) 8 * 2 ^ (8 * n) ≤ 255 * 2 ^ (8 * n) := Nat.mul_le_mul_right _ (by omega)
    have h3 : 2 ^ (8 * (n + 1)) = 256 * 2 ^ (8 * n) := by rw [Nat.mul_add, Nat.pow_add, Nat.mul_comm]
    simp only [tdB]
    omega
theorem tdN_lt {rb : Nat → Nat} (h : ∀ j, rb j < 2) (size bytes over : Nat) : tdN rb size bytes over < 2 ^ (8 * bytes + over) := by
  have h1 := tdB_lt h size bytes
  have h2 := valN_lt h size (9 * (2 + bytes)) over
  have h3 : valN rb size (9 * (2 + bytes)) over * 2 ^ (8 * bytes) ≤ (2 ^ over - 1) * 2 ^ (8 * bytes) := Nat.mul_le_mul_right _ (by omega)
  have h4 : (2 ^ over - 1) * 2 ^ (8 * bytes) + 2 ^ (8 * bytes) = 2 ^ (8 * bytes + over) := by
    rw [← Nat.succ_mul, Nat.succ_eq_add_one, Nat.sub_add_cancel Nat.one_le_two_pow, Nat.pow_add, Nat.mul_comm]
  unfold tdN
  omega
theorem z_max {x y : Nat} (hx : x < 2 ^ 31) (hy : y < 2 ^ 31) : (if nI x < nI y then nI y else nI x) = nI (max x y) := by
  by_cases h : x < y
  · rw [if_pos ((nI_ltI hx hy).mpr h)]; congr 1; omega
  · rw [if_neg (fun q => h ((nI_ltI hx hy).mp q))]; congr 1; omega
theorem z_min {x y : Nat} (hx : x < 2 ^ 31) (hy : y < 2 ^ 31) : (if nI y < nI x then nI y else nI x) = nI (min x y) := by
  by_cases h : y < x
  · rw [if_pos ((nI_ltI hy hx).mpr h)]; congr 1; omega
  · rw [if_neg (fun q => h ((nI_ltI hy hx).mp q))]; congr 1; omega
end
section
set_option maxHeartbeats 4000000 in
set_option maxRecDepth 100000 in
theorem c_X2_init (l : Launch) (X : hp_X) {μ : hp_M} {nx : Nat} {a : Nat}  : Ct l X yX2_init cX2_init 1 (none : Option Jvm.ClassFile.FieldType) 1 40 0 0 [.ref a] μ nx (hq_v X (po_v nx (fun z => z = μ))) := by
  refine hp_met (by decide) (Nat.le_of_ble_eq_true rfl) ?_
  intro p e s m below meth c ls hx hb hml hr hlocks hown hin hS hH hl
  have hl : lv_has ls 1 [(0, .ref a)] := hl
  refine lv_aload_n hx hb dX2_init_0 rfl (lv_at hl 0 rfl) ?_
  refine hp_obj hx hb hml hown hS ol_X2_3 hl.1 dX2_init_1 (Nat.le_of_ble_eq_true rfl) (Nat.le_of_ble_eq_true rfl) (Nat.le_of_ble_eq_true rfl) ?_
  exact hp_rv hx hb hr hlocks hS hH (⟨rfl, rfl⟩) dX2_init_4

set_option maxHeartbeats 4000000 in
set_option maxRecDepth 100000 in
theorem c_X2_clear (l : Launch) (X : hp_X) {μ : hp_M} {nx : Nat} {a on ze len : Nat} (f_a : μ a = some (hp_o 1 [.long (lN on), .long (lN ze), .int (nI len)])) : Ct l X yX2_clear cX2_clear 1 (none : Option Jvm.ClassFile.FieldType) 0 0 0 0 [.ref a] μ nx (hq_v X (po_v nx (fun z => z a = some (hp_o 1 [.long (lN 0), .long (lN 0), .int (nI 0)]) ∧ hp_eq [a] z μ))) := by
  refine hp_met (by decide) (Nat.le_of_ble_eq_true rfl) ?_
  intro p e s m below meth c ls hx hb hml hr hlocks hown hin hS hH hl
  have hl : lv_has ls 1 [(0, .ref a)] := hl
  have fr : hp_eq [a] μ μ := fun _ _ => rfl
  refine lv_aload_n hx hb dX2_clear_0 rfl (lv_at hl 0 rfl) ?_
  refine lv_lconst (v := lN 0) hx hb dX2_clear_1 rfl ?_
  refine hp_put hx hb hown hS.2.1 hH (P_X2_9.use hS) f_a rfl rfl (Nat.le_of_ble_eq_true rfl) dX2_clear_2 (fun H locs μ1 fz fn hH => ?_)
  have f_a : μ1 a = some (hp_o 1 [.long (lN 0), .long (lN ze), .int (nI len)]) := fz
  have fr := hp_eq.put fr (by simp) fn
  clear fz fn
  refine lv_aload_n hx hb dX2_clear_5 rfl (lv_at hl 0 rfl) ?_
  refine lv_lconst (v := lN 0) hx hb dX2_clear_6 rfl ?_
  refine hp_put hx hb hown hS.2.1 hH (P_X2_15.use hS) f_a rfl rfl (Nat.le_of_ble_eq_true rfl) dX2_clear_7 (fun H locs μ1 fz fn hH => ?_)
  have f_a : μ1 a = some (hp_o 1 [.long (lN 0), .long (lN 0), .int (nI len)]) := fz
  have fr := hp_eq.put fr (by simp) fn
  clear fz fn
  refine lv_aload_n hx hb dX2_clear_10 rfl (lv_at hl 0 rfl) ?_
  refine lv_iconst (v := nI 0) hx hb dX2_clear_11 (by decide) ?_
  refine hp_put hx hb hown hS.2.1 hH (P_X2_18.use hS) f_a rfl rfl (Nat.le_of_ble_eq_true rfl) dX2_clear_12 (fun H locs μ1 fz fn hH => ?_)
  have f_a : μ1 a = some (hp_o 1 [.long (lN 0), .long (lN 0), .int (nI 0)]) := fz
  have fr := hp_eq.put fr (by simp) fn
  clear fz fn
  exact hp_rv hx hb hr hlocks hS hH (⟨rfl, f_a, fr⟩) dX2_clear_15

set_option maxHeartbeats 4000000 in
set_option maxRecDepth 100000 in
theorem c_X2_lay (l : Launch) (X : hp_X) {μ : hp_M} {nx : Nat} {a on ze len B n : Nat} (hB : B < 2 ^ 64) (hon : on < 2 ^ 64) (hze : ze < 2 ^ 64) (hn1 : n < 64) (hl1 : len < 2 ^ 31) (f_a : μ a = some (hp_o 1 [.long (lN on), .long (lN ze), .int (nI len)])) : Ct l X yX2_lay cX2_lay 6 (none : Option Jvm.ClassFile.FieldType) 1 40 0 0 [.ref a, .long (lN B), .int (nI n)] μ nx (hq_v X (po_v nx (fun z => z a = some (hp_o 1 [.long (lN (on ||| B % 2 ^ n)), .long (lN (ze ||| czN B n)), .int (nI (max len n))]) ∧ hp_eq [a] z μ))) := by
  refine hp_met (by decide) (Nat.le_of_ble_eq_true rfl) ?_
  intro p e s m below meth c ls hx hb hml hr hlocks hown hin hS hH hl
  have hl : lv_has ls 6 [(0, .ref a), (1, .long (lN B)), (3, .int (nI n))] := hl
  have fr : hp_eq [a] μ μ := fun _ _ => rfl
  refine lv_lconst (v := lN 1) hx hb dX2_lay_0 rfl ?_
  refine lv_iload_n hx hb dX2_lay_1 rfl (lv_at hl 2 rfl) ?_
  refine lv_lshl hx hb dX2_lay_2 rfl ?_
  refine hp_eql (z := lN (2 ^ n)) (by rw [wb_shl _ (by omega), Nat.one_mul]) ?_
  refine lv_lconst (v := lN 1) hx hb dX2_lay_3 rfl ?_
  refine lv_lsub hx hb dX2_lay_4 ?_
  refine hp_eql (z := lN (2 ^ n - 1)) (lN_sub Nat.one_le_two_pow) ?_
  refine lv_lstore (lv' := [(4, .long (lN (2 ^ n - 1))), (0, .ref a), (1, .long (lN B)), (3, .int (nI n))]) hx hb dX2_lay_5 hl (by decide) rfl (fun ls hl => ?_)
  refine lv_aload_n hx hb dX2_lay_7 rfl (lv_at hl 1 rfl) ?_
  refine lv_dup hx hb dX2_lay_8 rfl ?_
  refine hp_get hx hb hown hS.2.1 hH (F_X2_9.use hS) f_a rfl dX2_lay_9 ?_
  refine lv_lload_n hx hb dX2_lay_12 rfl (lv_at hl 2 rfl) ?_
  refine lv_lload hx hb dX2_lay_13 (lv_at hl 0 rfl) ?_
  refine lv_land hx hb dX2_lay_15 ?_
  refine hp_eql (z := lN (B % 2 ^ n)) (wb_mask hB (by omega)) ?_
  refine lv_lor hx hb dX2_lay_16 ?_
  refine hp_eql (z := lN (on ||| B % 2 ^ n)) (wb_or hon (Nat.lt_of_le_of_lt (Nat.mod_le _ _) hB)) ?_
  refine hp_put hx hb hown hS.2.1 hH (P_X2_9.use hS) f_a rfl rfl (Nat.le_of_ble_eq_true rfl) dX2_lay_17 (fun H locs μ1 fz fn hH => ?_)
  have f_a : μ1 a = some (hp_o 1 [.long (lN (on ||| B % 2 ^ n)), .long (lN ze), .int (nI len)]) := fz
  have fr := hp_eq.put fr (by simp) fn
  clear fz fn
  refine lv_aload_n hx hb dX2_lay_20 rfl (lv_at hl 1 rfl) ?_
  refine lv_dup hx hb dX2_lay_21 rfl ?_
  refine hp_get hx hb hown hS.2.1 hH (F_X2_15.use hS) f_a rfl dX2_lay_22 ?_
  refine lv_lload_n hx hb dX2_lay_25 rfl (lv_at hl 2 rfl) ?_
  refine lv_ldc2 hx hb hown (hS.1 _ wi_570 _) dX2_lay_26 ?_
  refine lv_lxor hx hb dX2_lay_29 ?_
  refine hp_eql (z := lN (2 ^ 64 - 1 - B)) (z_not hB) ?_
  refine lv_lload hx hb dX2_lay_30 (lv_at hl 0 rfl) ?_
  refine lv_land hx hb dX2_lay_32 ?_
  refine hp_eql (z := lN (czN B n)) (wb_mask (by omega) (by omega)) ?_
  refine lv_lor hx hb dX2_lay_33 ?_
  refine hp_eql (z := lN (ze ||| czN B n)) (wb_or hze (Nat.lt_of_le_of_lt (Nat.mod_le _ _) (by omega))) ?_
  refine hp_put hx hb hown hS.2.1 hH (P_X2_15.use hS) f_a rfl rfl (Nat.le_of_ble_eq_true rfl) dX2_lay_34 (fun H locs μ1 fz fn hH => ?_)
  have f_a : μ1 a = some (hp_o 1 [.long (lN (on ||| B % 2 ^ n)), .long (lN (ze ||| czN B n)), .int (nI len)]) := fz
  have fr := hp_eq.put fr (by simp) fn
  clear fz fn
  refine lv_aload_n hx hb dX2_lay_37 rfl (lv_at hl 1 rfl) ?_
  refine lv_aload_n hx hb dX2_lay_38 rfl (lv_at hl 1 rfl) ?_
  refine hp_get hx hb hown hS.2.1 hH (F_X2_18.use hS) f_a rfl dX2_lay_39 ?_
  refine lv_iload_n hx hb dX2_lay_42 rfl (lv_at hl 3 rfl) ?_
  refine va_mmax hx hb (hml.trans hl.1.symm) hown (hS.1 _ wi_571 _) (hS.1 _ S_J9_max_7cf53 _) (hS.1 _ wi_57 _) (hS.1 _ wi_326 _) (Nat.le_of_ble_eq_true rfl) (Nat.le_of_ble_eq_true rfl) (Nat.zero_le _) (Nat.zero_le _) dX2_lay_43 ?_
  refine hp_eqi (z := nI (max len n)) (z_max (by omega) (by omega)) ?_
  refine hp_put hx hb hown hS.2.1 hH (P_X2_18.use hS) f_a rfl rfl (Nat.le_of_ble_eq_true rfl) dX2_lay_46 (fun H locs μ1 fz fn hH => ?_)
  have f_a : μ1 a = some (hp_o 1 [.long (lN (on ||| B % 2 ^ n)), .long (lN (ze ||| czN B n)), .int (nI (max len n))]) := fz
  have fr := hp_eq.put fr (by simp) fn
  clear fz fn
  exact hp_rv hx hb hr hlocks hS hH (⟨rfl, f_a, fr⟩) dX2_lay_49

set_option maxHeartbeats 4000000 in
set_option maxRecDepth 100000 in
theorem c_X2_bitAt (l : Launch) (X : hp_X) {μ : hp_M} {nx : Nat} {a on ze len j : Nat} (hj : j < len) (hon : on < 2 ^ 64) (hze : ze < 2 ^ 64) (hl1 : len < 64) (f_a : μ a = some (hp_o 1 [.long (lN on), .long (lN ze), .int (nI len)])) : Ct l X yX2_bitAt cX2_bitAt 4 (some FieldType.int) 0 0 0 0 [.ref a, .int (nI j)] μ nx (hq_i X (po_i nx (nI (digN on ze j)) (fun z => z = μ))) := by
  refine hp_met (by decide) (Nat.le_of_ble_eq_true rfl) ?_
  intro p e s m below meth c ls hx hb hml hr hlocks hown hin hS hH hl
  have hl : lv_has ls 4 [(0, .ref a), (1, .int (nI j))] := hl
  refine lv_iload_n hx hb dX2_bitAt_0 rfl (lv_at hl 1 rfl) ?_
  refine lv_if_lt (tgt := 12) hx hb dX2_bitAt_1 (by decide) (fun c_1 => ?_) (fun c_1 => ?_)
  · exact absurd c_1 (nI_pos (by omega))
  · refine lv_iload_n hx hb dX2_bitAt_4 rfl (lv_at hl 1 rfl) ?_
    refine lv_aload_n hx hb dX2_bitAt_5 rfl (lv_at hl 0 rfl) ?_
    refine hp_get hx hb hown hS.2.1 hH (F_X2_18.use hS) f_a rfl dX2_bitAt_6 ?_
    refine lv_icmp_lt (tgt := 14) hx hb dX2_bitAt_9 (by decide) (fun c_9 => ?_) (fun c_9 => ?_)
    · have c_9 : j < len := (nI_ltI (by omega) (by omega)).mp c_9
      refine lv_aload_n hx hb dX2_bitAt_14 rfl (lv_at hl 0 rfl) ?_
      refine hp_get hx hb hown hS.2.1 hH (F_X2_9.use hS) f_a rfl dX2_bitAt_15 ?_
      refine lv_iload_n hx hb dX2_bitAt_18 rfl (lv_at hl 1 rfl) ?_
      refine lv_lushr hx hb dX2_bitAt_19 rfl ?_
      refine hp_eql (z := lN (on / 2 ^ j)) (wb_shr hon (by omega)) ?_
      refine lv_lconst (v := lN 1) hx hb dX2_bitAt_20 rfl ?_
      refine lv_land hx hb dX2_bitAt_21 ?_
      refine hp_eql (z := lN (on / 2 ^ j % 2)) (wb_mask (k := 1) (Nat.lt_of_le_of_lt (Nat.div_le_self _ _) hon) (by decide)) ?_
      refine lv_lconst (v := lN 1) hx hb dX2_bitAt_22 rfl ?_
      refine W.lcmp hx hb dX2_bitAt_23 ?_
      refine lv_if_ne (tgt := 31) hx hb dX2_bitAt_24 (by decide) (fun c_24 => ?_) (fun c_24 => ?_)
      · have c_24 : ¬ (on / 2 ^ j % 2 = 1) := fun q => c_24 ((lg_cmp_eq _ _).mpr ((lN_eq (by omega) (by omega)).mpr q))
        refine lv_iconst (v := nI 0) hx hb dX2_bitAt_31 (by decide) ?_
        refine lv_istore_n (lv' := [(2, .int (nI 0)), (0, .ref a), (1, .int (nI j))]) hx hb dX2_bitAt_32 rfl hl (by decide) rfl (fun ls hl => ?_)
        refine lv_aload_n hx hb dX2_bitAt_33 rfl (lv_at hl 1 rfl) ?_
        refine hp_get hx hb hown hS.2.1 hH (F_X2_15.use hS) f_a rfl dX2_bitAt_34 ?_
        refine lv_iload_n hx hb dX2_bitAt_37 rfl (lv_at hl 2 rfl) ?_
        refine lv_lushr hx hb dX2_bitAt_38 rfl ?_
        refine hp_eql (z := lN (ze / 2 ^ j)) (wb_shr hze (by omega)) ?_
        refine lv_lconst (v := lN 1) hx hb dX2_bitAt_39 rfl ?_
        refine lv_land hx hb dX2_bitAt_40 ?_
        refine hp_eql (z := lN (ze / 2 ^ j % 2)) (wb_mask (k := 1) (Nat.lt_of_le_of_lt (Nat.div_le_self _ _) hze) (by decide)) ?_
        refine lv_lconst (v := lN 1) hx hb dX2_bitAt_41 rfl ?_
        refine W.lcmp hx hb dX2_bitAt_42 ?_
        refine lv_if_ne (tgt := 50) hx hb dX2_bitAt_43 (by decide) (fun c_43 => ?_) (fun c_43 => ?_)
        · have c_43 : ¬ (ze / 2 ^ j % 2 = 1) := fun q => c_43 ((lg_cmp_eq _ _).mpr ((lN_eq (by omega) (by omega)).mpr q))
          refine lv_iconst (v := nI 0) hx hb dX2_bitAt_50 (by decide) ?_
          refine lv_istore_n (lv' := [(3, .int (nI 0)), (2, .int (nI 0)), (0, .ref a), (1, .int (nI j))]) hx hb dX2_bitAt_51 rfl hl (by decide) rfl (fun ls hl => ?_)
          refine lv_iload_n hx hb dX2_bitAt_52 rfl (lv_at hl 1 rfl) ?_
          refine lv_if_eq (tgt := 62) hx hb dX2_bitAt_53 (by decide) (fun c_53 => ?_) (fun c_53 => ?_)
          · have c_53 : 0 = 0 := nz_0 (by omega) c_53
            refine lv_iload_n hx hb dX2_bitAt_62 rfl (lv_at hl 1 rfl) ?_
            refine lv_if_eq (tgt := 70) hx hb dX2_bitAt_63 (by decide) (fun c_63 => ?_) (fun c_63 => ?_)
            · have c_63 : 0 = 0 := nz_0 (by omega) c_63
              refine lv_iconst (v := nI 0) hx hb dX2_bitAt_70 (by decide) ?_
              exact hp_ri hx hb hr hlocks hS hH (⟨rfl, congrArg nI (Eq.symm (by unfold digN; simp [c_24, c_43])), rfl⟩) dX2_bitAt_71
            · exact absurd c_63 (by decide)
          · exact absurd c_53 (by decide)
        · have c_43 : ze / 2 ^ j % 2 = 1 := (lN_eq (by omega) (by omega)).mp ((lg_cmp_eq _ _).mp c_43)
          refine lv_iconst (v := nI 1) hx hb dX2_bitAt_46 (by decide) ?_
          refine lv_goto (tgt := 51) hx hb dX2_bitAt_47 (by decide) ?_
          refine lv_istore_n (lv' := [(3, .int (nI 1)), (2, .int (nI 0)), (0, .ref a), (1, .int (nI j))]) hx hb dX2_bitAt_51 rfl hl (by decide) rfl (fun ls hl => ?_)
          refine lv_iload_n hx hb dX2_bitAt_52 rfl (lv_at hl 1 rfl) ?_
          refine lv_if_eq (tgt := 62) hx hb dX2_bitAt_53 (by decide) (fun c_53 => ?_) (fun c_53 => ?_)
          · have c_53 : 0 = 0 := nz_0 (by omega) c_53
            refine lv_iload_n hx hb dX2_bitAt_62 rfl (lv_at hl 1 rfl) ?_
            refine lv_if_eq (tgt := 70) hx hb dX2_bitAt_63 (by decide) (fun c_63 => ?_) (fun c_63 => ?_)
            · have c_63 : 0 = 0 := nz_0 (by omega) c_63
              refine lv_iconst (v := nI 0) hx hb dX2_bitAt_70 (by decide) ?_
              exact hp_ri hx hb hr hlocks hS hH (⟨rfl, congrArg nI (Eq.symm (by unfold digN; simp [c_24, c_43])), rfl⟩) dX2_bitAt_71
            · exact absurd c_63 (by decide)
          · exact absurd c_53 (by decide)
      · have c_24 : on / 2 ^ j % 2 = 1 := (lN_eq (by omega) (by omega)).mp ((lg_cmp_eq _ _).mp c_24)
        refine lv_iconst (v := nI 1) hx hb dX2_bitAt_27 (by decide) ?_
        refine lv_goto (tgt := 32) hx hb dX2_bitAt_28 (by decide) ?_
        refine lv_istore_n (lv' := [(2, .int (nI 1)), (0, .ref a), (1, .int (nI j))]) hx hb dX2_bitAt_32 rfl hl (by decide) rfl (fun ls hl => ?_)
        refine lv_aload_n hx hb dX2_bitAt_33 rfl (lv_at hl 1 rfl) ?_
        refine hp_get hx hb hown hS.2.1 hH (F_X2_15.use hS) f_a rfl dX2_bitAt_34 ?_
        refine lv_iload_n hx hb dX2_bitAt_37 rfl (lv_at hl 2 rfl) ?_
        refine lv_lushr hx hb dX2_bitAt_38 rfl ?_
        refine hp_eql (z := lN (ze / 2 ^ j)) (wb_shr hze (by omega)) ?_
        refine lv_lconst (v := lN 1) hx hb dX2_bitAt_39 rfl ?_
        refine lv_land hx hb dX2_bitAt_40 ?_
        refine hp_eql (z := lN (ze / 2 ^ j % 2)) (wb_mask (k := 1) (Nat.lt_of_le_of_lt (Nat.div_le_self _ _) hze) (by decide)) ?_
        refine lv_lconst (v := lN 1) hx hb dX2_bitAt_41 rfl ?_
        refine W.lcmp hx hb dX2_bitAt_42 ?_
        refine lv_if_ne (tgt := 50) hx hb dX2_bitAt_43 (by decide) (fun c_43 => ?_) (fun c_43 => ?_)
        · have c_43 : ¬ (ze / 2 ^ j % 2 = 1) := fun q => c_43 ((lg_cmp_eq _ _).mpr ((lN_eq (by omega) (by omega)).mpr q))
          refine lv_iconst (v := nI 0) hx hb dX2_bitAt_50 (by decide) ?_
          refine lv_istore_n (lv' := [(3, .int (nI 0)), (2, .int (nI 1)), (0, .ref a), (1, .int (nI j))]) hx hb dX2_bitAt_51 rfl hl (by decide) rfl (fun ls hl => ?_)
          refine lv_iload_n hx hb dX2_bitAt_52 rfl (lv_at hl 1 rfl) ?_
          refine lv_if_eq (tgt := 62) hx hb dX2_bitAt_53 (by decide) (fun c_53 => ?_) (fun c_53 => ?_)
          · exact absurd c_53 (by decide)
          · have c_53 : ¬ (1 = 0) := nz_n (by omega) c_53
            refine lv_iload_n hx hb dX2_bitAt_56 rfl (lv_at hl 0 rfl) ?_
            refine lv_if_eq (tgt := 62) hx hb dX2_bitAt_57 (by decide) (fun c_57 => ?_) (fun c_57 => ?_)
            · have c_57 : 0 = 0 := nz_0 (by omega) c_57
              refine lv_iload_n hx hb dX2_bitAt_62 rfl (lv_at hl 1 rfl) ?_
              refine lv_if_eq (tgt := 70) hx hb dX2_bitAt_63 (by decide) (fun c_63 => ?_) (fun c_63 => ?_)
              · exact absurd c_63 (by decide)
              · have c_63 : ¬ (1 = 0) := nz_n (by omega) c_63
                refine lv_iconst (v := nI 1) hx hb dX2_bitAt_66 (by decide) ?_
                refine lv_goto (tgt := 71) hx hb dX2_bitAt_67 (by decide) ?_
                exact hp_ri hx hb hr hlocks hS hH (⟨rfl, congrArg nI (Eq.symm (by unfold digN; simp [c_24, c_43])), rfl⟩) dX2_bitAt_71
            · exact absurd c_57 (by decide)
        · have c_43 : ze / 2 ^ j % 2 = 1 := (lN_eq (by omega) (by omega)).mp ((lg_cmp_eq _ _).mp c_43)
          refine lv_iconst (v := nI 1) hx hb dX2_bitAt_46 (by decide) ?_
          refine lv_goto (tgt := 51) hx hb dX2_bitAt_47 (by decide) ?_
          refine lv_istore_n (lv' := [(3, .int (nI 1)), (2, .int (nI 1)), (0, .ref a), (1, .int (nI j))]) hx hb dX2_bitAt_51 rfl hl (by decide) rfl (fun ls hl => ?_)
          refine lv_iload_n hx hb dX2_bitAt_52 rfl (lv_at hl 1 rfl) ?_
          refine lv_if_eq (tgt := 62) hx hb dX2_bitAt_53 (by decide) (fun c_53 => ?_) (fun c_53 => ?_)
          · exact absurd c_53 (by decide)
          · have c_53 : ¬ (1 = 0) := nz_n (by omega) c_53
            refine lv_iload_n hx hb dX2_bitAt_56 rfl (lv_at hl 0 rfl) ?_
            refine lv_if_eq (tgt := 62) hx hb dX2_bitAt_57 (by decide) (fun c_57 => ?_) (fun c_57 => ?_)
            · exact absurd c_57 (by decide)
            · have c_57 : ¬ (1 = 0) := nz_n (by omega) c_57
              refine lv_iconst (v := nI 2) hx hb dX2_bitAt_60 (by decide) ?_
              exact hp_ri hx hb hr hlocks hS hH (⟨rfl, congrArg nI (Eq.symm (by unfold digN; simp [c_24, c_43])), rfl⟩) dX2_bitAt_61
    · have c_9 : ¬ (j < len) := fun z => c_9 ((nI_ltI (by omega) (by omega)).mpr z)
      exact absurd hj c_9

set_option maxHeartbeats 4000000 in
set_option maxRecDepth 100000 in
theorem c_X2_bitAt_out (l : Launch) (X : hp_X) {μ : hp_M} {nx : Nat} {a on ze len : Nat} {i : Int32} (hj : i < 0 ∨ nI len ≤ i) (f_a : μ a = some (hp_o 1 [.long (lN on), .long (lN ze), .int (nI len)])) : Ct l X yX2_bitAt cX2_bitAt 4 (some FieldType.int) 0 0 0 0 [.ref a, .int i] μ nx (hq_i X (po_i nx (-1) (fun z => z = μ))) := by
  refine hp_met (by decide) (Nat.le_of_ble_eq_true rfl) ?_
  intro p e s m below meth c ls hx hb hml hr hlocks hown hin hS hH hl
  have hl : lv_has ls 4 [(0, .ref a), (1, .int i)] := hl
  refine lv_iload_n hx hb dX2_bitAt_0 rfl (lv_at hl 1 rfl) ?_
  refine lv_if_lt (tgt := 12) hx hb dX2_bitAt_1 (by decide) (fun c_1 => ?_) (fun c_1 => ?_)
  · refine lv_iconst (v := (-1)) hx hb dX2_bitAt_12 (by decide) ?_
    exact hp_ri hx hb hr hlocks hS hH (⟨rfl, rfl, rfl⟩) dX2_bitAt_13
  · refine lv_iload_n hx hb dX2_bitAt_4 rfl (lv_at hl 1 rfl) ?_
    refine lv_aload_n hx hb dX2_bitAt_5 rfl (lv_at hl 0 rfl) ?_
    refine hp_get hx hb hown hS.2.1 hH (F_X2_18.use hS) f_a rfl dX2_bitAt_6 ?_
    refine lv_icmp_lt (tgt := 14) hx hb dX2_bitAt_9 (by decide) (fun c_9 => ?_) (fun c_9 => ?_)
    · exact absurd hj (fun q => q.elim c_1 (fun q => absurd (Int32.lt_of_lt_of_le c_9 q) (by simp)))
    · refine lv_iconst (v := (-1)) hx hb dX2_bitAt_12 (by decide) ?_
      exact hp_ri hx hb hr hlocks hS hH (⟨rfl, rfl, rfl⟩) dX2_bitAt_13

set_option maxHeartbeats 4000000 in
set_option maxRecDepth 100000 in
theorem c_X2_beginsWith (l : Launch) (X : hp_X) {μ : hp_M} {nx : Nat} {a on ze len b : Nat} (hon : on < 2 ^ 64) (hze : ze < 2 ^ 64) (hb1 : b < 2 ^ 8) (f_a : μ a = some (hp_o 1 [.long (lN on), .long (lN ze), .int (nI len)])) : Ct l X yX2_beginsWith cX2_beginsWith 2 (some FieldType.boolean) 0 0 0 0 [.ref a, .int (nI b)] μ nx (hq_i X (po_i nx (nB (decide (on % 256 = b ∧ ze % 256 = b ^^^ 255))) (fun z => z = μ))) := by
  refine hp_met (by decide) (Nat.le_of_ble_eq_true rfl) ?_
  intro p e s m below meth c ls hx hb hml hr hlocks hown hin hS hH hl
  have hl : lv_has ls 2 [(0, .ref a), (1, .int (nI b))] := hl
  refine lv_aload_n hx hb dX2_beginsWith_0 rfl (lv_at hl 0 rfl) ?_
  refine hp_get hx hb hown hS.2.1 hH (F_X2_9.use hS) f_a rfl dX2_beginsWith_1 ?_
  refine lv_ldc2 hx hb hown (hS.1 _ wi_647 _) dX2_beginsWith_4 ?_
  refine hp_eql (z := lN 255) (by decide) ?_
  refine lv_land hx hb dX2_beginsWith_7 ?_
  refine hp_eql (z := lN (on % 256)) (wb_mask (k := 8) hon (by decide)) ?_
  refine lv_iload_n hx hb dX2_beginsWith_8 rfl (lv_at hl 1 rfl) ?_
  refine lv_i2l hx hb dX2_beginsWith_9 rfl ?_
  refine hp_eql (z := lN b) (nI_l (by omega)) ?_
  refine W.lcmp hx hb dX2_beginsWith_10 ?_
  refine lv_if_ne (tgt := 36) hx hb dX2_beginsWith_11 (by decide) (fun c_11 => ?_) (fun c_11 => ?_)
  · have c_11 : ¬ (on % 256 = b) := fun q => c_11 ((lg_cmp_eq _ _).mpr ((lN_eq (by omega) (by omega)).mpr q))
    refine lv_iconst (v := nI 0) hx hb dX2_beginsWith_36 (by decide) ?_
    refine hp_eqi (z := nB false) (by decide) ?_
    exact hp_rz hx hb hr hlocks hS hH (nB_nar _) (⟨rfl, congrArg nB (Eq.symm (by simp [c_11])), rfl⟩) dX2_beginsWith_37
  · have c_11 : on % 256 = b := (lN_eq (by omega) (by omega)).mp ((lg_cmp_eq _ _).mp c_11)
    refine lv_aload_n hx hb dX2_beginsWith_14 rfl (lv_at hl 0 rfl) ?_
    refine hp_get hx hb hown hS.2.1 hH (F_X2_15.use hS) f_a rfl dX2_beginsWith_15 ?_
    refine lv_ldc2 hx hb hown (hS.1 _ wi_647 _) dX2_beginsWith_18 ?_
    refine hp_eql (z := lN 255) (by decide) ?_
    refine lv_land hx hb dX2_beginsWith_21 ?_
    refine hp_eql (z := lN (ze % 256)) (wb_mask (k := 8) hze (by decide)) ?_
    refine lv_iload_n hx hb dX2_beginsWith_22 rfl (lv_at hl 1 rfl) ?_
    refine lv_sipush (v := nI 255) hx hb dX2_beginsWith_23 (by decide) ?_
    refine lv_ixor hx hb dX2_beginsWith_26 ?_
    refine hp_eqi (z := nI (b ^^^ 255)) (nx_xor _ _) ?_
    have hxl : b ^^^ 255 < 2 ^ 8 := Nat.xor_lt_two_pow hb1 (by decide)
    refine lv_i2l hx hb dX2_beginsWith_27 rfl ?_
    refine hp_eql (z := lN (b ^^^ 255)) (nI_l (by omega)) ?_
    refine W.lcmp hx hb dX2_beginsWith_28 ?_
    refine lv_if_ne (tgt := 36) hx hb dX2_beginsWith_29 (by decide) (fun c_29 => ?_) (fun c_29 => ?_)
    · have c_29 : ¬ (ze % 256 = b ^^^ 255) := fun q => c_29 ((lg_cmp_eq _ _).mpr ((lN_eq (by omega) (by omega)).mpr q))
      refine lv_iconst (v := nI 0) hx hb dX2_beginsWith_36 (by decide) ?_
      refine hp_eqi (z := nB false) (by decide) ?_
      exact hp_rz hx hb hr hlocks hS hH (nB_nar _) (⟨rfl, congrArg nB (Eq.symm (by simp [c_11, c_29])), rfl⟩) dX2_beginsWith_37
    · have c_29 : ze % 256 = b ^^^ 255 := (lN_eq (by omega) (by omega)).mp ((lg_cmp_eq _ _).mp c_29)
      refine lv_iconst (v := nI 1) hx hb dX2_beginsWith_32 (by decide) ?_
      refine lv_goto (tgt := 37) hx hb dX2_beginsWith_33 (by decide) ?_
      refine hp_eqi (z := nB true) (by decide) ?_
      exact hp_rz hx hb hr hlocks hS hH (nB_nar _) (⟨rfl, congrArg nB (Eq.symm (by simp [c_11, c_29])), rfl⟩) dX2_beginsWith_37
end
section
set_option maxHeartbeats 4000000 in
set_option maxRecDepth 100000 in
theorem c_X4_levelByte (l : Launch) (X : hp_X) {μ : hp_M} {nx : Nat} {v : Nat}  : Ct l X yX4_levelByte cX4_levelByte 1 (some FieldType.int) 0 0 0 0 [.int (nI v)] μ nx (hq_i X (po_i nx (nI (145 + 2 * v)) (fun z => z = μ))) := by
  refine hp_met (by decide) (Nat.le_of_ble_eq_true rfl) ?_
  intro p e s m below meth c ls hx hb hml hr hlocks hown hin hS hH hl
  have hl : lv_has ls 1 [(0, .int (nI v))] := hl
  refine lv_sipush (v := nI 145) hx hb dX4_levelByte_0 (by decide) ?_
  refine lv_iconst (v := nI 2) hx hb dX4_levelByte_3 (by decide) ?_
  refine lv_iload_n hx hb dX4_levelByte_4 rfl (lv_at hl 0 rfl) ?_
  refine lv_imul hx hb dX4_levelByte_5 ?_
  refine hp_eqi (z := nI (2 * v)) (pk_mul _ _) ?_
  refine lv_iadd hx hb dX4_levelByte_6 ?_
  refine hp_eqi (z := nI (145 + (2 * v))) (nI_add _ _) ?_
  exact hp_ri hx hb hr hlocks hS hH (⟨rfl, rfl, rfl⟩) dX4_levelByte_7

set_option maxHeartbeats 4000000 in
set_option maxRecDepth 100000 in
theorem c_X4_levelOf (l : Launch) (X : hp_X) {μ : hp_M} {nx : Nat} {v : Nat} (hv : v < 2 ^ 30)  : Ct l X yX4_levelOf cX4_levelOf 2 (some FieldType.int) 1 40 0 0 [.int (nI v)] μ nx (hq_i X (po_i nx (nI (lvOf v)) (fun z => z = μ))) := by
  refine hp_met (by decide) (Nat.le_of_ble_eq_true rfl) ?_
  intro p e s m below meth c ls hx hb hml hr hlocks hown hin hS hH hl
  have hl : lv_has ls 2 [(0, .int (nI v))] := hl
  refine lv_iconst (v := nI 1) hx hb dX4_levelOf_0 (by decide) ?_
  refine lv_istore_n (lv' := [(1, .int (nI 1)), (0, .int (nI v))]) hx hb dX4_levelOf_1 rfl hl (by decide) rfl (fun ls hl => ?_)
  refine lv_iload_n hx hb dX4_levelOf_2 rfl (lv_at hl 0 rfl) ?_
  refine lv_iconst (v := nI 3) hx hb dX4_levelOf_3 (by decide) ?_
  refine lv_icmp_gt (tgt := 23) hx hb dX4_levelOf_4 (by decide) (fun c_4 => ?_) (fun c_4 => ?_)
  · exact absurd c_4 (by decide)
  · have c_4 : ¬ (3 < 1) := fun z => c_4 ((nI_ltI (by omega) (by omega)).mpr z)
    refine lv_iload_n hx hb dX4_levelOf_7 rfl (lv_at hl 1 rfl) ?_
    refine lv_iload_n hx hb dX4_levelOf_8 rfl (lv_at hl 0 rfl) ?_
    refine hp_kip (hp_runS (As := [.int (nI 1)]) (rest := [.int (nI v)]) hx hb hml hown hS hH (c_X4_levelByte l X (v := 1)) M_X4_87 S_X4_levelByte rfl hl.1 rfl (Nat.le_of_ble_eq_true rfl) dX4_levelOf_9 ⟨Nat.le_of_ble_eq_true rfl, Nat.le_of_ble_eq_true rfl⟩ ⟨Nat.le_of_ble_eq_true rfl, Nat.le_of_ble_eq_true rfl⟩) hH (fun H locs hH => ?_)
    refine hp_eqi (z := nI 147) rfl ?_
    refine lv_icmp_ne (tgt := 17) hx hb dX4_levelOf_12 (by decide) (fun c_12 => ?_) (fun c_12 => ?_)
    · have c_12 : ¬ (v = 147) := fun z => c_12 ((nI_eq (by omega) (by omega)).mpr z)
      have e1 := c_12
      refine lv_iinc (v := nI 2) (lv' := [(1, .int (nI 2)), (0, .int (nI v))]) hx hb dX4_levelOf_17 hl (k := 0) rfl (nI_add _ 1) (by decide) rfl (fun ls hl => ?_)
      refine lv_goto (tgt := 2) hx hb dX4_levelOf_20 (by decide) ?_
      refine lv_iload_n hx hb dX4_levelOf_2 rfl (lv_at hl 0 rfl) ?_
      refine lv_iconst (v := nI 3) hx hb dX4_levelOf_3 (by decide) ?_
      refine lv_icmp_gt (tgt := 23) hx hb dX4_levelOf_4 (by decide) (fun c_4 => ?_) (fun c_4 => ?_)
      · exact absurd c_4 (by decide)
      · have c_4 : ¬ (3 < 2) := fun z => c_4 ((nI_ltI (by omega) (by omega)).mpr z)
        refine lv_iload_n hx hb dX4_levelOf_7 rfl (lv_at hl 1 rfl) ?_
        refine lv_iload_n hx hb dX4_levelOf_8 rfl (lv_at hl 0 rfl) ?_
        refine hp_kip (hp_runS (As := [.int (nI 2)]) (rest := [.int (nI v)]) hx hb hml hown hS hH (c_X4_levelByte l X (v := 2)) M_X4_87 S_X4_levelByte rfl hl.1 rfl (Nat.le_of_ble_eq_true rfl) dX4_levelOf_9 ⟨Nat.le_of_ble_eq_true rfl, Nat.le_of_ble_eq_true rfl⟩ ⟨Nat.le_of_ble_eq_true rfl, Nat.le_of_ble_eq_true rfl⟩) hH (fun H locs hH => ?_)
        refine hp_eqi (z := nI 149) rfl ?_
        refine lv_icmp_ne (tgt := 17) hx hb dX4_levelOf_12 (by decide) (fun c_12 => ?_) (fun c_12 => ?_)
        · have c_12 : ¬ (v = 149) := fun z => c_12 ((nI_eq (by omega) (by omega)).mpr z)
          have e2 := c_12
          refine lv_iinc (v := nI 3) (lv' := [(1, .int (nI 3)), (0, .int (nI v))]) hx hb dX4_levelOf_17 hl (k := 0) rfl (nI_add _ 1) (by decide) rfl (fun ls hl => ?_)
          refine lv_goto (tgt := 2) hx hb dX4_levelOf_20 (by decide) ?_
          refine lv_iload_n hx hb dX4_levelOf_2 rfl (lv_at hl 0 rfl) ?_
          refine lv_iconst (v := nI 3) hx hb dX4_levelOf_3 (by decide) ?_
          refine lv_icmp_gt (tgt := 23) hx hb dX4_levelOf_4 (by decide) (fun c_4 => ?_) (fun c_4 => ?_)
          · exact absurd c_4 (by decide)
          · have c_4 : ¬ (3 < 3) := fun z => c_4 ((nI_ltI (by omega) (by omega)).mpr z)
            refine lv_iload_n hx hb dX4_levelOf_7 rfl (lv_at hl 1 rfl) ?_
            refine lv_iload_n hx hb dX4_levelOf_8 rfl (lv_at hl 0 rfl) ?_
            refine hp_kip (hp_runS (As := [.int (nI 3)]) (rest := [.int (nI v)]) hx hb hml hown hS hH (c_X4_levelByte l X (v := 3)) M_X4_87 S_X4_levelByte rfl hl.1 rfl (Nat.le_of_ble_eq_true rfl) dX4_levelOf_9 ⟨Nat.le_of_ble_eq_true rfl, Nat.le_of_ble_eq_true rfl⟩ ⟨Nat.le_of_ble_eq_true rfl, Nat.le_of_ble_eq_true rfl⟩) hH (fun H locs hH => ?_)
            refine hp_eqi (z := nI 151) rfl ?_
            refine lv_icmp_ne (tgt := 17) hx hb dX4_levelOf_12 (by decide) (fun c_12 => ?_) (fun c_12 => ?_)
            · have c_12 : ¬ (v = 151) := fun z => c_12 ((nI_eq (by omega) (by omega)).mpr z)
              have e3 := c_12
              refine lv_iinc (v := nI 4) (lv' := [(1, .int (nI 4)), (0, .int (nI v))]) hx hb dX4_levelOf_17 hl (k := 0) rfl (nI_add _ 1) (by decide) rfl (fun ls hl => ?_)
              refine lv_goto (tgt := 2) hx hb dX4_levelOf_20 (by decide) ?_
              refine lv_iload_n hx hb dX4_levelOf_2 rfl (lv_at hl 0 rfl) ?_
              refine lv_iconst (v := nI 3) hx hb dX4_levelOf_3 (by decide) ?_
              refine lv_icmp_gt (tgt := 23) hx hb dX4_levelOf_4 (by decide) (fun c_4 => ?_) (fun c_4 => ?_)
              · have c_4 : 3 < 4 := (nI_ltI (by omega) (by omega)).mp c_4
                refine lv_iconst (v := nI 0) hx hb dX4_levelOf_23 (by decide) ?_
                exact hp_ri hx hb hr hlocks hS hH (⟨rfl, congrArg nI (Eq.symm (by unfold lvOf; simp [e1, e2, e3])), rfl⟩) dX4_levelOf_24
              · exact absurd c_4 (by decide)
            · have c_12 : v = 151 := (nI_eq (by omega) (by omega)).mp c_12
              have e3 := c_12
              refine lv_iload_n hx hb dX4_levelOf_15 rfl (lv_at hl 0 rfl) ?_
              exact hp_ri hx hb hr hlocks hS hH (⟨rfl, congrArg nI (Eq.symm (by unfold lvOf; simp [e1, e2, e3])), rfl⟩) dX4_levelOf_16
        · have c_12 : v = 149 := (nI_eq (by omega) (by omega)).mp c_12
          have e2 := c_12
          refine lv_iload_n hx hb dX4_levelOf_15 rfl (lv_at hl 0 rfl) ?_
          exact hp_ri hx hb hr hlocks hS hH (⟨rfl, congrArg nI (Eq.symm (by unfold lvOf; simp [e1, e2])), rfl⟩) dX4_levelOf_16
    · have c_12 : v = 147 := (nI_eq (by omega) (by omega)).mp c_12
      have e1 := c_12
      refine lv_iload_n hx hb dX4_levelOf_15 rfl (lv_at hl 0 rfl) ?_
      exact hp_ri hx hb hr hlocks hS hH (⟨rfl, congrArg nI (Eq.symm (by unfold lvOf; simp [e1])), rfl⟩) dX4_levelOf_16

set_option maxHeartbeats 4000000 in
set_option maxRecDepth 100000 in
theorem c_X4_kindOfShort (l : Launch) (X : hp_X) {μ : hp_M} {nx : Nat} {v : Nat} (hv : v < 2 ^ 30)  : Ct l X yX4_kindOfShort cX4_kindOfShort 1 (some (FieldType.object "TagField$Kind")) 0 0 0 0 [.int (nI v)] μ nx (hq_r X (po_r nx (X.2.2.2 (kdS v)) (fun z => z = μ))) := by
  refine hp_met (by decide) (Nat.le_of_ble_eq_true rfl) ?_
  intro p e s m below meth c ls hx hb hml hr hlocks hown hin hS hH hl
  have hl : lv_has ls 1 [(0, .int (nI v))] := hl
  refine lv_iload_n hx hb dX4_kindOfShort_0 rfl (lv_at hl 0 rfl) ?_
  refine lv_bipush (v := nI 38) hx hb dX4_kindOfShort_1 (by decide) ?_
  refine lv_icmp_ne (tgt := 10) hx hb dX4_kindOfShort_3 (by decide) (fun c_3 => ?_) (fun c_3 => ?_)
  · have c_3 : ¬ (v = 38) := fun z => c_3 ((nI_eq (by omega) (by omega)).mpr z)
    refine lv_iload_n hx hb dX4_kindOfShort_10 rfl (lv_at hl 0 rfl) ?_
    refine lv_bipush (v := nI 82) hx hb dX4_kindOfShort_11 (by decide) ?_
    refine lv_icmp_ne (tgt := 22) hx hb dX4_kindOfShort_13 (by decide) (fun c_13 => ?_) (fun c_13 => ?_)
    · have c_13 : ¬ (v = 82) := fun z => c_13 ((nI_eq (by omega) (by omega)).mpr z)
      refine hp_gets hx hb hS.k0 hH hown G_X4_9 hS dX4_kindOfShort_22 ?_
      exact hp_rr hx hb hr (Or.inl ⟨_, rfl⟩) hlocks hS hH (⟨rfl, congrArg X.2.2.2 (Eq.symm (by unfold kdS; simp [c_3, c_13])), rfl⟩) dX4_kindOfShort_25
    · have c_13 : v = 82 := (nI_eq (by omega) (by omega)).mp c_13
      refine hp_gets hx hb hS.k2 hH hown G_X4_68 hS dX4_kindOfShort_16 ?_
      refine lv_goto (tgt := 25) hx hb dX4_kindOfShort_19 (by decide) ?_
      exact hp_rr hx hb hr (Or.inl ⟨_, rfl⟩) hlocks hS hH (⟨rfl, congrArg X.2.2.2 (Eq.symm (by unfold kdS; simp [c_3, c_13])), rfl⟩) dX4_kindOfShort_25
  · have c_3 : v = 38 := (nI_eq (by omega) (by omega)).mp c_3
    refine hp_gets hx hb hS.k1 hH hown G_X4_65 hS dX4_kindOfShort_6 ?_
    exact hp_rr hx hb hr (Or.inl ⟨_, rfl⟩) hlocks hS hH (⟨rfl, congrArg X.2.2.2 (Eq.symm (by unfold kdS; simp [c_3])), rfl⟩) dX4_kindOfShort_9

set_option maxHeartbeats 4000000 in
set_option maxRecDepth 100000 in
theorem c_X4_kindOfCommand (l : Launch) (X : hp_X) {μ : hp_M} {nx : Nat} {f k0 lv0 se0 td0 tc0 : Nat} {fi oc : Nat} (hv : fi < 2 ^ 30) (ho : oc < 2 ^ 30) (hse : se0 < 2 ^ 30) (f_f : μ f = some (hp_o 2 [.ref (X.2.2.2 k0), .int (nI lv0), .int (nI se0), .long (lN td0), .int (nI tc0)])) : Ct l X yX4_kindOfCommand cX4_kindOfCommand 3 (some (FieldType.object "TagField$Kind")) 0 0 0 0 [.ref f, .int (nI fi), .int (nI oc)] μ nx (hq_r X (po_r nx (X.2.2.2 (kdC fi oc se0)) (fun z => z = μ))) := by
  refine hp_met (by decide) (Nat.le_of_ble_eq_true rfl) ?_
  intro p e s m below meth c ls hx hb hml hr hlocks hown hin hS hH hl
  have hl : lv_has ls 3 [(0, .ref f), (1, .int (nI fi)), (2, .int (nI oc))] := hl
  refine lv_iload_n hx hb dX4_kindOfCommand_0 rfl (lv_at hl 1 rfl) ?_
  refine lv_bipush (v := nI 80) hx hb dX4_kindOfCommand_1 (by decide) ?_
  refine lv_icmp_ne (tgt := 22) hx hb dX4_kindOfCommand_3 (by decide) (fun c_3 => ?_) (fun c_3 => ?_)
  · have c_3 : ¬ (fi = 80) := fun z => c_3 ((nI_eq (by omega) (by omega)).mpr z)
    refine lv_iload_n hx hb dX4_kindOfCommand_22 rfl (lv_at hl 1 rfl) ?_
    refine lv_sipush (v := nI 224) hx hb dX4_kindOfCommand_23 (by decide) ?_
    refine lv_icmp_ne (tgt := 38) hx hb dX4_kindOfCommand_26 (by decide) (fun c_26 => ?_) (fun c_26 => ?_)
    · have c_26 : ¬ (fi = 224) := fun z => c_26 ((nI_eq (by omega) (by omega)).mpr z)
      refine lv_iload_n hx hb dX4_kindOfCommand_38 rfl (lv_at hl 1 rfl) ?_
      refine lv_sipush (v := nI 194) hx hb dX4_kindOfCommand_39 (by decide) ?_
      refine lv_icmp_ne (tgt := 56) hx hb dX4_kindOfCommand_42 (by decide) (fun c_42 => ?_) (fun c_42 => ?_)
      · have c_42 : ¬ (fi = 194) := fun z => c_42 ((nI_eq (by omega) (by omega)).mpr z)
        refine hp_gets hx hb hS.k0 hH hown G_X4_9 hS dX4_kindOfCommand_56 ?_
        exact hp_rr hx hb hr (Or.inl ⟨_, rfl⟩) hlocks hS hH (⟨rfl, congrArg X.2.2.2 (Eq.symm (by unfold kdC; (split <;> (try split) <;> (try split)) <;> omega)), rfl⟩) dX4_kindOfCommand_59
      · have c_42 : fi = 194 := (nI_eq (by omega) (by omega)).mp c_42
        refine lv_iload_n hx hb dX4_kindOfCommand_45 rfl (lv_at hl 2 rfl) ?_
        refine lv_iconst (v := nI 3) hx hb dX4_kindOfCommand_46 (by decide) ?_
        refine lv_icmp_ne (tgt := 56) hx hb dX4_kindOfCommand_47 (by decide) (fun c_47 => ?_) (fun c_47 => ?_)
        · have c_47 : ¬ (oc = 3) := fun z => c_47 ((nI_eq (by omega) (by omega)).mpr z)
          refine hp_gets hx hb hS.k0 hH hown G_X4_9 hS dX4_kindOfCommand_56 ?_
          exact hp_rr hx hb hr (Or.inl ⟨_, rfl⟩) hlocks hS hH (⟨rfl, congrArg X.2.2.2 (Eq.symm (by unfold kdC; (split <;> (try split) <;> (try split)) <;> omega)), rfl⟩) dX4_kindOfCommand_59
        · have c_47 : oc = 3 := (nI_eq (by omega) (by omega)).mp c_47
          refine hp_gets hx hb hS.k7 hH hown G_X4_77 hS dX4_kindOfCommand_50 ?_
          refine lv_goto (tgt := 59) hx hb dX4_kindOfCommand_53 (by decide) ?_
          exact hp_rr hx hb hr (Or.inl ⟨_, rfl⟩) hlocks hS hH (⟨rfl, congrArg X.2.2.2 (Eq.symm (by unfold kdC; (split <;> (try split) <;> (try split)) <;> omega)), rfl⟩) dX4_kindOfCommand_59
    · have c_26 : fi = 224 := (nI_eq (by omega) (by omega)).mp c_26
      refine lv_iload_n hx hb dX4_kindOfCommand_29 rfl (lv_at hl 2 rfl) ?_
      refine lv_iconst (v := nI 4) hx hb dX4_kindOfCommand_30 (by decide) ?_
      refine lv_icmp_ne (tgt := 38) hx hb dX4_kindOfCommand_31 (by decide) (fun c_31 => ?_) (fun c_31 => ?_)
      · have c_31 : ¬ (oc = 4) := fun z => c_31 ((nI_eq (by omega) (by omega)).mpr z)
        refine lv_iload_n hx hb dX4_kindOfCommand_38 rfl (lv_at hl 1 rfl) ?_
        refine lv_sipush (v := nI 194) hx hb dX4_kindOfCommand_39 (by decide) ?_
        refine lv_icmp_ne (tgt := 56) hx hb dX4_kindOfCommand_42 (by decide) (fun c_42 => ?_) (fun c_42 => ?_)
        · have c_42 : ¬ (fi = 194) := fun z => c_42 ((nI_eq (by omega) (by omega)).mpr z)
          refine hp_gets hx hb hS.k0 hH hown G_X4_9 hS dX4_kindOfCommand_56 ?_
          exact hp_rr hx hb hr (Or.inl ⟨_, rfl⟩) hlocks hS hH (⟨rfl, congrArg X.2.2.2 (Eq.symm (by unfold kdC; (split <;> (try split) <;> (try split)) <;> omega)), rfl⟩) dX4_kindOfCommand_59
        · have c_42 : fi = 194 := (nI_eq (by omega) (by omega)).mp c_42
          refine lv_iload_n hx hb dX4_kindOfCommand_45 rfl (lv_at hl 2 rfl) ?_
          refine lv_iconst (v := nI 3) hx hb dX4_kindOfCommand_46 (by decide) ?_
          refine lv_icmp_ne (tgt := 56) hx hb dX4_kindOfCommand_47 (by decide) (fun c_47 => ?_) (fun c_47 => ?_)
          · have c_47 : ¬ (oc = 3) := fun z => c_47 ((nI_eq (by omega) (by omega)).mpr z)
            refine hp_gets hx hb hS.k0 hH hown G_X4_9 hS dX4_kindOfCommand_56 ?_
            exact hp_rr hx hb hr (Or.inl ⟨_, rfl⟩) hlocks hS hH (⟨rfl, congrArg X.2.2.2 (Eq.symm (by unfold kdC; (split <;> (try split) <;> (try split)) <;> omega)), rfl⟩) dX4_kindOfCommand_59
          · have c_47 : oc = 3 := (nI_eq (by omega) (by omega)).mp c_47
            refine hp_gets hx hb hS.k7 hH hown G_X4_77 hS dX4_kindOfCommand_50 ?_
            refine lv_goto (tgt := 59) hx hb dX4_kindOfCommand_53 (by decide) ?_
            exact hp_rr hx hb hr (Or.inl ⟨_, rfl⟩) hlocks hS hH (⟨rfl, congrArg X.2.2.2 (Eq.symm (by unfold kdC; (split <;> (try split) <;> (try split)) <;> omega)), rfl⟩) dX4_kindOfCommand_59
      · have c_31 : oc = 4 := (nI_eq (by omega) (by omega)).mp c_31
        refine hp_gets hx hb hS.k6 hH hown G_X4_74 hS dX4_kindOfCommand_34 ?_
        exact hp_rr hx hb hr (Or.inl ⟨_, rfl⟩) hlocks hS hH (⟨rfl, congrArg X.2.2.2 (Eq.symm (by unfold kdC; (split <;> (try split) <;> (try split)) <;> omega)), rfl⟩) dX4_kindOfCommand_37
  · have c_3 : fi = 80 := (nI_eq (by omega) (by omega)).mp c_3
    refine lv_iload_n hx hb dX4_kindOfCommand_6 rfl (lv_at hl 2 rfl) ?_
    refine lv_iconst (v := nI 4) hx hb dX4_kindOfCommand_7 (by decide) ?_
    refine lv_icmp_ne (tgt := 22) hx hb dX4_kindOfCommand_8 (by decide) (fun c_8 => ?_) (fun c_8 => ?_)
    · have c_8 : ¬ (oc = 4) := fun z => c_8 ((nI_eq (by omega) (by omega)).mpr z)
      refine lv_iload_n hx hb dX4_kindOfCommand_22 rfl (lv_at hl 1 rfl) ?_
      refine lv_sipush (v := nI 224) hx hb dX4_kindOfCommand_23 (by decide) ?_
      refine lv_icmp_ne (tgt := 38) hx hb dX4_kindOfCommand_26 (by decide) (fun c_26 => ?_) (fun c_26 => ?_)
      · have c_26 : ¬ (fi = 224) := fun z => c_26 ((nI_eq (by omega) (by omega)).mpr z)
        refine lv_iload_n hx hb dX4_kindOfCommand_38 rfl (lv_at hl 1 rfl) ?_
        refine lv_sipush (v := nI 194) hx hb dX4_kindOfCommand_39 (by decide) ?_
        refine lv_icmp_ne (tgt := 56) hx hb dX4_kindOfCommand_42 (by decide) (fun c_42 => ?_) (fun c_42 => ?_)
        · have c_42 : ¬ (fi = 194) := fun z => c_42 ((nI_eq (by omega) (by omega)).mpr z)
          refine hp_gets hx hb hS.k0 hH hown G_X4_9 hS dX4_kindOfCommand_56 ?_
          exact hp_rr hx hb hr (Or.inl ⟨_, rfl⟩) hlocks hS hH (⟨rfl, congrArg X.2.2.2 (Eq.symm (by unfold kdC; (split <;> (try split) <;> (try split)) <;> omega)), rfl⟩) dX4_kindOfCommand_59
        · have c_42 : fi = 194 := (nI_eq (by omega) (by omega)).mp c_42
          refine lv_iload_n hx hb dX4_kindOfCommand_45 rfl (lv_at hl 2 rfl) ?_
          refine lv_iconst (v := nI 3) hx hb dX4_kindOfCommand_46 (by decide) ?_
          refine lv_icmp_ne (tgt := 56) hx hb dX4_kindOfCommand_47 (by decide) (fun c_47 => ?_) (fun c_47 => ?_)
          · have c_47 : ¬ (oc = 3) := fun z => c_47 ((nI_eq (by omega) (by omega)).mpr z)
            refine hp_gets hx hb hS.k0 hH hown G_X4_9 hS dX4_kindOfCommand_56 ?_
            exact hp_rr hx hb hr (Or.inl ⟨_, rfl⟩) hlocks hS hH (⟨rfl, congrArg X.2.2.2 (Eq.symm (by unfold kdC; (split <;> (try split) <;> (try split)) <;> omega)), rfl⟩) dX4_kindOfCommand_59
          · have c_47 : oc = 3 := (nI_eq (by omega) (by omega)).mp c_47
            refine hp_gets hx hb hS.k7 hH hown G_X4_77 hS dX4_kindOfCommand_50 ?_
            refine lv_goto (tgt := 59) hx hb dX4_kindOfCommand_53 (by decide) ?_
            exact hp_rr hx hb hr (Or.inl ⟨_, rfl⟩) hlocks hS hH (⟨rfl, congrArg X.2.2.2 (Eq.symm (by unfold kdC; (split <;> (try split) <;> (try split)) <;> omega)), rfl⟩) dX4_kindOfCommand_59
      · have c_26 : fi = 224 := (nI_eq (by omega) (by omega)).mp c_26
        refine lv_iload_n hx hb dX4_kindOfCommand_29 rfl (lv_at hl 2 rfl) ?_
        refine lv_iconst (v := nI 4) hx hb dX4_kindOfCommand_30 (by decide) ?_
        refine lv_icmp_ne (tgt := 38) hx hb dX4_kindOfCommand_31 (by decide) (fun c_31 => ?_) (fun c_31 => ?_)
        · have c_31 : ¬ (oc = 4) := fun z => c_31 ((nI_eq (by omega) (by omega)).mpr z)
          refine lv_iload_n hx hb dX4_kindOfCommand_38 rfl (lv_at hl 1 rfl) ?_
          refine lv_sipush (v := nI 194) hx hb dX4_kindOfCommand_39 (by decide) ?_
          refine lv_icmp_ne (tgt := 56) hx hb dX4_kindOfCommand_42 (by decide) (fun c_42 => ?_) (fun c_42 => ?_)
          · have c_42 : ¬ (fi = 194) := fun z => c_42 ((nI_eq (by omega) (by omega)).mpr z)
            refine hp_gets hx hb hS.k0 hH hown G_X4_9 hS dX4_kindOfCommand_56 ?_
            exact hp_rr hx hb hr (Or.inl ⟨_, rfl⟩) hlocks hS hH (⟨rfl, congrArg X.2.2.2 (Eq.symm (by unfold kdC; (split <;> (try split) <;> (try split)) <;> omega)), rfl⟩) dX4_kindOfCommand_59
          · have c_42 : fi = 194 := (nI_eq (by omega) (by omega)).mp c_42
            refine lv_iload_n hx hb dX4_kindOfCommand_45 rfl (lv_at hl 2 rfl) ?_
            refine lv_iconst (v := nI 3) hx hb dX4_kindOfCommand_46 (by decide) ?_
            refine lv_icmp_ne (tgt := 56) hx hb dX4_kindOfCommand_47 (by decide) (fun c_47 => ?_) (fun c_47 => ?_)
            · have c_47 : ¬ (oc = 3) := fun z => c_47 ((nI_eq (by omega) (by omega)).mpr z)
              refine hp_gets hx hb hS.k0 hH hown G_X4_9 hS dX4_kindOfCommand_56 ?_
              exact hp_rr hx hb hr (Or.inl ⟨_, rfl⟩) hlocks hS hH (⟨rfl, congrArg X.2.2.2 (Eq.symm (by unfold kdC; (split <;> (try split) <;> (try split)) <;> omega)), rfl⟩) dX4_kindOfCommand_59
            · have c_47 : oc = 3 := (nI_eq (by omega) (by omega)).mp c_47
              refine hp_gets hx hb hS.k7 hH hown G_X4_77 hS dX4_kindOfCommand_50 ?_
              refine lv_goto (tgt := 59) hx hb dX4_kindOfCommand_53 (by decide) ?_
              exact hp_rr hx hb hr (Or.inl ⟨_, rfl⟩) hlocks hS hH (⟨rfl, congrArg X.2.2.2 (Eq.symm (by unfold kdC; (split <;> (try split) <;> (try split)) <;> omega)), rfl⟩) dX4_kindOfCommand_59
        · have c_31 : oc = 4 := (nI_eq (by omega) (by omega)).mp c_31
          refine hp_gets hx hb hS.k6 hH hown G_X4_74 hS dX4_kindOfCommand_34 ?_
          exact hp_rr hx hb hr (Or.inl ⟨_, rfl⟩) hlocks hS hH (⟨rfl, congrArg X.2.2.2 (Eq.symm (by unfold kdC; (split <;> (try split) <;> (try split)) <;> omega)), rfl⟩) dX4_kindOfCommand_37
    · have c_8 : oc = 4 := (nI_eq (by omega) (by omega)).mp c_8
      refine lv_aload_n hx hb dX4_kindOfCommand_11 rfl (lv_at hl 0 rfl) ?_
      refine hp_get hx hb hown hS.2.1 hH (F_X4_30.use hS) f_f rfl dX4_kindOfCommand_12 ?_
      refine lv_if_ne (tgt := 22) hx hb dX4_kindOfCommand_15 (by decide) (fun c_15 => ?_) (fun c_15 => ?_)
      · have c_15 : ¬ (se0 = 0) := nz_n (by omega) c_15
        refine lv_iload_n hx hb dX4_kindOfCommand_22 rfl (lv_at hl 1 rfl) ?_
        refine lv_sipush (v := nI 224) hx hb dX4_kindOfCommand_23 (by decide) ?_
        refine lv_icmp_ne (tgt := 38) hx hb dX4_kindOfCommand_26 (by decide) (fun c_26 => ?_) (fun c_26 => ?_)
        · have c_26 : ¬ (fi = 224) := fun z => c_26 ((nI_eq (by omega) (by omega)).mpr z)
          refine lv_iload_n hx hb dX4_kindOfCommand_38 rfl (lv_at hl 1 rfl) ?_
          refine lv_sipush (v := nI 194) hx hb dX4_kindOfCommand_39 (by decide) ?_
          refine lv_icmp_ne (tgt := 56) hx hb dX4_kindOfCommand_42 (by decide) (fun c_42 => ?_) (fun c_42 => ?_)
          · have c_42 : ¬ (fi = 194) := fun z => c_42 ((nI_eq (by omega) (by omega)).mpr z)
            refine hp_gets hx hb hS.k0 hH hown G_X4_9 hS dX4_kindOfCommand_56 ?_
            exact hp_rr hx hb hr (Or.inl ⟨_, rfl⟩) hlocks hS hH (⟨rfl, congrArg X.2.2.2 (Eq.symm (by unfold kdC; (split <;> (try split) <;> (try split)) <;> omega)), rfl⟩) dX4_kindOfCommand_59
          · have c_42 : fi = 194 := (nI_eq (by omega) (by omega)).mp c_42
            refine lv_iload_n hx hb dX4_kindOfCommand_45 rfl (lv_at hl 2 rfl) ?_
            refine lv_iconst (v := nI 3) hx hb dX4_kindOfCommand_46 (by decide) ?_
            refine lv_icmp_ne (tgt := 56) hx hb dX4_kindOfCommand_47 (by decide) (fun c_47 => ?_) (fun c_47 => ?_)
            · have c_47 : ¬ (oc = 3) := fun z => c_47 ((nI_eq (by omega) (by omega)).mpr z)
              refine hp_gets hx hb hS.k0 hH hown G_X4_9 hS dX4_kindOfCommand_56 ?_
              exact hp_rr hx hb hr (Or.inl ⟨_, rfl⟩) hlocks hS hH (⟨rfl, congrArg X.2.2.2 (Eq.symm (by unfold kdC; (split <;> (try split) <;> (try split)) <;> omega)), rfl⟩) dX4_kindOfCommand_59
            · have c_47 : oc = 3 := (nI_eq (by omega) (by omega)).mp c_47
              refine hp_gets hx hb hS.k7 hH hown G_X4_77 hS dX4_kindOfCommand_50 ?_
              refine lv_goto (tgt := 59) hx hb dX4_kindOfCommand_53 (by decide) ?_
              exact hp_rr hx hb hr (Or.inl ⟨_, rfl⟩) hlocks hS hH (⟨rfl, congrArg X.2.2.2 (Eq.symm (by unfold kdC; (split <;> (try split) <;> (try split)) <;> omega)), rfl⟩) dX4_kindOfCommand_59
        · have c_26 : fi = 224 := (nI_eq (by omega) (by omega)).mp c_26
          refine lv_iload_n hx hb dX4_kindOfCommand_29 rfl (lv_at hl 2 rfl) ?_
          refine lv_iconst (v := nI 4) hx hb dX4_kindOfCommand_30 (by decide) ?_
          refine lv_icmp_ne (tgt := 38) hx hb dX4_kindOfCommand_31 (by decide) (fun c_31 => ?_) (fun c_31 => ?_)
          · have c_31 : ¬ (oc = 4) := fun z => c_31 ((nI_eq (by omega) (by omega)).mpr z)
            refine lv_iload_n hx hb dX4_kindOfCommand_38 rfl (lv_at hl 1 rfl) ?_
            refine lv_sipush (v := nI 194) hx hb dX4_kindOfCommand_39 (by decide) ?_
            refine lv_icmp_ne (tgt := 56) hx hb dX4_kindOfCommand_42 (by decide) (fun c_42 => ?_) (fun c_42 => ?_)
            · have c_42 : ¬ (fi = 194) := fun z => c_42 ((nI_eq (by omega) (by omega)).mpr z)
              refine hp_gets hx hb hS.k0 hH hown G_X4_9 hS dX4_kindOfCommand_56 ?_
              exact hp_rr hx hb hr (Or.inl ⟨_, rfl⟩) hlocks hS hH (⟨rfl, congrArg X.2.2.2 (Eq.symm (by unfold kdC; (split <;> (try split) <;> (try split)) <;> omega)), rfl⟩) dX4_kindOfCommand_59
            · have c_42 : fi = 194 := (nI_eq (by omega) (by omega)).mp c_42
              refine lv_iload_n hx hb dX4_kindOfCommand_45 rfl (lv_at hl 2 rfl) ?_
              refine lv_iconst (v := nI 3) hx hb dX4_kindOfCommand_46 (by decide) ?_
              refine lv_icmp_ne (tgt := 56) hx hb dX4_kindOfCommand_47 (by decide) (fun c_47 => ?_) (fun c_47 => ?_)
              · have c_47 : ¬ (oc = 3) := fun z => c_47 ((nI_eq (by omega) (by omega)).mpr z)
                refine hp_gets hx hb hS.k0 hH hown G_X4_9 hS dX4_kindOfCommand_56 ?_
                exact hp_rr hx hb hr (Or.inl ⟨_, rfl⟩) hlocks hS hH (⟨rfl, congrArg X.2.2.2 (Eq.symm (by unfold kdC; (split <;> (try split) <;> (try split)) <;> omega)), rfl⟩) dX4_kindOfCommand_59
              · have c_47 : oc = 3 := (nI_eq (by omega) (by omega)).mp c_47
                refine hp_gets hx hb hS.k7 hH hown G_X4_77 hS dX4_kindOfCommand_50 ?_
                refine lv_goto (tgt := 59) hx hb dX4_kindOfCommand_53 (by decide) ?_
                exact hp_rr hx hb hr (Or.inl ⟨_, rfl⟩) hlocks hS hH (⟨rfl, congrArg X.2.2.2 (Eq.symm (by unfold kdC; (split <;> (try split) <;> (try split)) <;> omega)), rfl⟩) dX4_kindOfCommand_59
          · have c_31 : oc = 4 := (nI_eq (by omega) (by omega)).mp c_31
            refine hp_gets hx hb hS.k6 hH hown G_X4_74 hS dX4_kindOfCommand_34 ?_
            exact hp_rr hx hb hr (Or.inl ⟨_, rfl⟩) hlocks hS hH (⟨rfl, congrArg X.2.2.2 (Eq.symm (by unfold kdC; (split <;> (try split) <;> (try split)) <;> omega)), rfl⟩) dX4_kindOfCommand_37
      · have c_15 : se0 = 0 := nz_0 (by omega) c_15
        refine hp_gets hx hb hS.k5 hH hown G_X4_71 hS dX4_kindOfCommand_18 ?_
        exact hp_rr hx hb hr (Or.inl ⟨_, rfl⟩) hlocks hS hH (⟨rfl, congrArg X.2.2.2 (Eq.symm (by unfold kdC; (split <;> (try split) <;> (try split)) <;> omega)), rfl⟩) dX4_kindOfCommand_21

set_option maxHeartbeats 4000000 in
set_option maxRecDepth 100000 in
theorem c_X4_readTold (l : Launch) (X : hp_X) {μ : hp_M} {nx : Nat} {f k0 lv0 se0 td0 tc0 : Nat} {r b room size : Nat} {rb : Nat → Nat} {by1 ov : Nat} (h01 : ∀ j, rb j < 2) (hr1 : room < 2 ^ 30) (hs1 : size ≤ room) (hb1 : by1 ≤ 5) (ho1 : ov ≤ 7) (f_f : μ f = some (hp_o 2 [.ref (X.2.2.2 k0), .int (nI lv0), .int (nI se0), .long (lN td0), .int (nI tc0)])) (f_r : μ r = some (hp_o 4 [.ref b, .int (nI size)])) (f_b : μ b = some (hp_n X room rb)) : Ct l X yX4_readTold cX4_readTold 5 (none : Option Jvm.ClassFile.FieldType) 1 40 0 0 [.ref f, .ref r, .int (nI by1), .int (nI ov)] μ nx (hq_v X (po_v nx (fun z => z f = some (hp_o 2 [.ref (X.2.2.2 k0), .int (nI lv0), .int (nI se0), .long (lN (tdN rb size by1 ov)), .int (nI (8 * by1 + ov))]) ∧ hp_eq [f] z μ))) := by
  refine hp_met (by decide) (Nat.le_of_ble_eq_true rfl) ?_
  intro p e s m below meth c ls hx hb hml hr hlocks hown hin hS hH hl
  have hl : lv_has ls 5 [(0, .ref f), (1, .ref r), (2, .int (nI by1)), (3, .int (nI ov))] := hl
  have fr : hp_eq [f] μ μ := fun _ _ => rfl
  refine lv_aload_n hx hb dX4_readTold_0 rfl (lv_at hl 0 rfl) ?_
  refine lv_lconst (v := lN 0) hx hb dX4_readTold_1 rfl ?_
  refine hp_put hx hb hown hS.2.1 hH (P_X4_80.use hS) f_f rfl rfl (Nat.le_of_ble_eq_true rfl) dX4_readTold_2 (fun H locs μ1 fz fn hH => ?_)
  have f_r := (fn _ (hp_ne f_r f_f (by simp))).trans f_r
  have f_b := (fn _ (hp_ne f_b f_f (by simp))).trans f_b
  have f_f : μ1 f = some (hp_o 2 [.ref (X.2.2.2 k0), .int (nI lv0), .int (nI se0), .long (lN 0), .int (nI tc0)]) := fz
  have fr := hp_eq.put fr (by simp) fn
  clear fz fn
  refine lv_iconst (v := nI 0) hx hb dX4_readTold_5 (by decide) ?_
  refine lv_istore (lv' := [(4, .int (nI 0)), (0, .ref f), (1, .ref r), (2, .int (nI by1)), (3, .int (nI ov))]) hx hb dX4_readTold_6 hl (by decide) rfl (fun ls hl => ?_)
  have lp_8 : ∀ (kk : Nat) (i : Nat), (i ≤ by1) → (by1 - i) < kk → ∀ (μ1 : hp_M) (H : Heap) (locs : List Loc) (ls : Array Slot), (μ1 f = some (hp_o 2 [.ref (X.2.2.2 k0), .int (nI lv0), .int (nI se0), .long (lN (tdB rb size i)), .int (nI tc0)])) → (μ1 r = some (hp_o 4 [.ref b, .int (nI size)])) → (μ1 b = some (hp_n X room rb)) → hp_eq [f] μ1 μ → hp_w X cls μ1 nx H locs → lv_has ls 5 [(0, .ref f), (1, .ref r), (2, .int (nI by1)), (3, .int (nI ov)), (4, .int (nI i))] → W p l e { frames := 1, cells := 0, slots := 0, locals := 40 } s m [.ref f, .ref r, .int (nI by1), .int (nI ov)].toArray below meth c H locs 0 0 (MQ below (hq_v X (po_v nx (fun z => z f = some (hp_o 2 [.ref (X.2.2.2 k0), .int (nI lv0), .int (nI se0), .long (lN (tdN rb size by1 ov)), .int (nI (8 * by1 + ov))]) ∧ hp_eq [f] z μ))) [.ref f, .ref r, .int (nI by1), .int (nI ov)].toArray s 0 0 (hp_A X)) (F0 m 8 ls []) := by
    intro kk
    induction kk with
    | zero =>
      intro i hi hkk
      exact absurd hkk (Nat.not_lt_zero _)
    | succ kk ih =>
      intro i hi hkk μ1 H locs ls f_f f_r f_b fr hH hl
      refine lv_iload hx hb dX4_readTold_8 (lv_at hl 4 rfl) ?_
      refine lv_iload_n hx hb dX4_readTold_10 rfl (lv_at hl 2 rfl) ?_
      refine lv_icmp_ge (tgt := 49) hx hb dX4_readTold_11 (by decide) (fun c_11 => ?_) (fun c_11 => ?_)
      · have c_11 : by1 ≤ i := (nI_leI (by omega) (by omega)).mp c_11
        have hin : i = by1 := by omega
        rw [hin] at f_f
        refine lv_aload_n hx hb dX4_readTold_49 rfl (lv_at hl 0 rfl) ?_
        refine lv_dup hx hb dX4_readTold_50 rfl ?_
        refine hp_get hx hb hown hS.2.1 hH (F_X4_80.use hS) f_f rfl dX4_readTold_51 ?_
        refine lv_aload_n hx hb dX4_readTold_54 rfl (lv_at hl 1 rfl) ?_
        refine lv_bipush (v := nI 9) hx hb dX4_readTold_55 (by decide) ?_
        refine lv_iconst (v := nI 2) hx hb dX4_readTold_57 (by decide) ?_
        refine lv_iload_n hx hb dX4_readTold_58 rfl (lv_at hl 2 rfl) ?_
        refine lv_iadd hx hb dX4_readTold_59 ?_
        refine hp_eqi (z := nI (2 + by1)) (nI_add _ _) ?_
        refine lv_imul hx hb dX4_readTold_60 ?_
        refine hp_eqi (z := nI (9 * (2 + by1))) (pk_mul _ _) ?_
        refine lv_iload_n hx hb dX4_readTold_61 rfl (lv_at hl 3 rfl) ?_
        refine hp_kip (hp_runV (As := [.int (nI (9 * (2 + by1))), .int (nI ov)]) (rest := [.long (lN (tdB rb size by1)), .ref f]) hx hb hml hown hS hH (c_X8_valueAt l X (fm := 9 * (2 + by1)) (n := ov) h01 hr1 (by omega) (by omega) hs1 f_r f_b) M_X4_26 I_X8_valueAt V_X8_valueAt (ci := 4) rfl rfl f_r rfl hl.1 rfl (Nat.le_of_ble_eq_true rfl) dX4_readTold_62 ⟨Nat.le_of_ble_eq_true rfl, Nat.le_of_ble_eq_true rfl⟩ ⟨Nat.le_of_ble_eq_true rfl, Nat.le_of_ble_eq_true rfl⟩) hH (fun H locs hH => ?_)
        have hvl := valN_lt h01 size (9 * (2 + by1)) ov
        have hvp : (2 : Nat) ^ ov ≤ 2 ^ 8 := Nat.pow_le_pow_right (by decide) (by omega)
        refine lv_i2l hx hb dX4_readTold_65 rfl ?_
        refine hp_eql (z := lN (valN rb size (9 * (2 + by1)) ov)) (nI_l (by omega)) ?_
        refine lv_bipush (v := nI 8) hx hb dX4_readTold_66 (by decide) ?_
        refine lv_iload_n hx hb dX4_readTold_68 rfl (lv_at hl 2 rfl) ?_
        refine lv_imul hx hb dX4_readTold_69 ?_
        refine hp_eqi (z := nI (8 * by1)) (pk_mul _ _) ?_
        refine lv_lshl hx hb dX4_readTold_70 rfl ?_
        refine hp_eql (z := lN (valN rb size (9 * (2 + by1)) ov * 2 ^ (8 * by1))) (wb_shl _ (by omega)) ?_
        refine lv_lor hx hb dX4_readTold_71 ?_
        refine hp_eql (z := lN (tdN rb size by1 ov)) (by rw [g_or' (k := 8 * by1) rfl (tdB_lt h01 size by1) (Nat.lt_of_lt_of_le (tdN_lt h01 size by1 ov) (Nat.pow_le_pow_right (by decide) (by omega)))]; rfl) ?_
        refine hp_put hx hb hown hS.2.1 hH (P_X4_80.use hS) f_f rfl rfl (Nat.le_of_ble_eq_true rfl) dX4_readTold_72 (fun H locs μ1 fz fn hH => ?_)
        have f_r := (fn _ (hp_ne f_r f_f (by simp))).trans f_r
        have f_b := (fn _ (hp_ne f_b f_f (by simp))).trans f_b
        have f_f : μ1 f = some (hp_o 2 [.ref (X.2.2.2 k0), .int (nI lv0), .int (nI se0), .long (lN (tdN rb size by1 ov)), .int (nI tc0)]) := fz
        have fr := hp_eq.put fr (by simp) fn
        clear fz fn
        refine lv_aload_n hx hb dX4_readTold_75 rfl (lv_at hl 0 rfl) ?_
        refine lv_bipush (v := nI 8) hx hb dX4_readTold_76 (by decide) ?_
        refine lv_iload_n hx hb dX4_readTold_78 rfl (lv_at hl 2 rfl) ?_
        refine lv_imul hx hb dX4_readTold_79 ?_
        refine hp_eqi (z := nI (8 * by1)) (pk_mul _ _) ?_
        refine lv_iload_n hx hb dX4_readTold_80 rfl (lv_at hl 3 rfl) ?_
        refine lv_iadd hx hb dX4_readTold_81 ?_
        refine hp_eqi (z := nI ((8 * by1) + ov)) (nI_add _ _) ?_
        refine hp_put hx hb hown hS.2.1 hH (P_X4_84.use hS) f_f rfl rfl (Nat.le_of_ble_eq_true rfl) dX4_readTold_82 (fun H locs μ1 fz fn hH => ?_)
        have f_r := (fn _ (hp_ne f_r f_f (by simp))).trans f_r
        have f_b := (fn _ (hp_ne f_b f_f (by simp))).trans f_b
        have f_f : μ1 f = some (hp_o 2 [.ref (X.2.2.2 k0), .int (nI lv0), .int (nI se0), .long (lN (tdN rb size by1 ov)), .int (nI ((8 * by1) + ov))]) := fz
        have fr := hp_eq.put fr (by simp) fn
        clear fz fn
        exact hp_rv hx hb hr hlocks hS hH (⟨rfl, f_f, fr⟩) dX4_readTold_85
      · have c_11 : ¬ (by1 ≤ i) := fun z => c_11 ((nI_leI (by omega) (by omega)).mpr z)
        refine lv_aload_n hx hb dX4_readTold_14 rfl (lv_at hl 0 rfl) ?_
        refine lv_dup hx hb dX4_readTold_15 rfl ?_
        refine hp_get hx hb hown hS.2.1 hH (F_X4_80.use hS) f_f rfl dX4_readTold_16 ?_
        refine lv_aload_n hx hb dX4_readTold_19 rfl (lv_at hl 1 rfl) ?_
        refine lv_bipush (v := nI 9) hx hb dX4_readTold_20 (by decide) ?_
        refine lv_iconst (v := nI 2) hx hb dX4_readTold_22 (by decide) ?_
        refine lv_iload hx hb dX4_readTold_23 (lv_at hl 4 rfl) ?_
        refine lv_iadd hx hb dX4_readTold_25 ?_
        refine hp_eqi (z := nI (2 + i)) (nI_add _ _) ?_
        refine lv_imul hx hb dX4_readTold_26 ?_
        refine hp_eqi (z := nI (9 * (2 + i))) (pk_mul _ _) ?_
        refine lv_bipush (v := nI 8) hx hb dX4_readTold_27 (by decide) ?_
        refine hp_kip (hp_runV (As := [.int (nI (9 * (2 + i))), .int (nI 8)]) (rest := [.long (lN (tdB rb size i)), .ref f]) hx hb hml hown hS hH (c_X8_valueAt l X (fm := 9 * (2 + i)) (n := 8) h01 hr1 (by omega) (by omega) hs1 f_r f_b) M_X4_26 I_X8_valueAt V_X8_valueAt (ci := 4) rfl rfl f_r rfl hl.1 rfl (Nat.le_of_ble_eq_true rfl) dX4_readTold_29 ⟨Nat.le_of_ble_eq_true rfl, Nat.le_of_ble_eq_true rfl⟩ ⟨Nat.le_of_ble_eq_true rfl, Nat.le_of_ble_eq_true rfl⟩) hH (fun H locs hH => ?_)
        have hvl := valN_lt h01 size (9 * (2 + i)) 8
        refine lv_i2l hx hb dX4_readTold_32 rfl ?_
        refine hp_eql (z := lN (valN rb size (9 * (2 + i)) 8)) (nI_l (by omega)) ?_
        refine lv_bipush (v := nI 8) hx hb dX4_readTold_33 (by decide) ?_
        refine lv_iload hx hb dX4_readTold_35 (lv_at hl 4 rfl) ?_
        refine lv_imul hx hb dX4_readTold_37 ?_
        refine hp_eqi (z := nI (8 * i)) (pk_mul _ _) ?_
        refine lv_lshl hx hb dX4_readTold_38 rfl ?_
        refine hp_eql (z := lN (valN rb size (9 * (2 + i)) 8 * 2 ^ (8 * i))) (wb_shl _ (by omega)) ?_
        refine lv_lor hx hb dX4_readTold_39 ?_
        refine hp_eql (z := lN (tdB rb size (i + 1))) (by rw [g_or' (k := 8 * i) rfl (tdB_lt h01 size i) (Nat.lt_of_lt_of_le (tdB_lt h01 size (i + 1)) (Nat.pow_le_pow_right (by decide) (by omega)))]; rfl) ?_
        refine hp_put hx hb hown hS.2.1 hH (P_X4_80.use hS) f_f rfl rfl (Nat.le_of_ble_eq_true rfl) dX4_readTold_40 (fun H locs μ1 fz fn hH => ?_)
        have f_r := (fn _ (hp_ne f_r f_f (by simp))).trans f_r
        have f_b := (fn _ (hp_ne f_b f_f (by simp))).trans f_b
        have f_f : μ1 f = some (hp_o 2 [.ref (X.2.2.2 k0), .int (nI lv0), .int (nI se0), .long (lN (tdB rb size (i + 1))), .int (nI tc0)]) := fz
        have fr := hp_eq.put fr (by simp) fn
        clear fz fn
        refine lv_iinc (v := nI (i + 1)) (lv' := [(4, .int (nI (i + 1))), (0, .ref f), (1, .ref r), (2, .int (nI by1)), (3, .int (nI ov))]) hx hb dX4_readTold_43 hl (k := 4) rfl (nI_add _ 1) (by decide) rfl (fun ls hl => ?_)
        refine lv_goto (tgt := 8) hx hb dX4_readTold_46 (by decide) ?_
        exact ih (i + 1) (by omega) (by omega) _ _ _ _ f_f f_r f_b fr hH (lv_sub hl [1, 2, 3, 4, 0] rfl)
  exact lp_8 ((by1 - 0) + 1) 0 (Nat.zero_le _) (Nat.lt_succ_self _) _ _ _ _ f_f f_r f_b fr hH (lv_sub hl [1, 2, 3, 4, 0] rfl)

set_option maxHeartbeats 4000000 in
set_option maxRecDepth 100000 in
theorem c_X4_init (l : Launch) (X : hp_X) {μ : hp_M} {nx : Nat} {f : Nat} (f_f : μ f = some (hp_o 2 [.null, .int (nI 0), .int (nI 0), .long (lN 0), .int (nI 0)])) : Ct l X yX4_init cX4_init 1 (none : Option Jvm.ClassFile.FieldType) 1 40 0 0 [.ref f] μ nx (hq_v X (po_v nx (fun z => z f = some (hp_o 2 [.ref (X.2.2.2 0), .int (nI 0), .int (nI 0), .long (lN 0), .int (nI 0)]) ∧ hp_eq [f] z μ))) := by
  refine hp_met (by decide) (Nat.le_of_ble_eq_true rfl) ?_
  intro p e s m below meth c ls hx hb hml hr hlocks hown hin hS hH hl
  have hl : lv_has ls 1 [(0, .ref f)] := hl
  have fr : hp_eq [f] μ μ := fun _ _ => rfl
  refine lv_aload_n hx hb dX4_init_0 rfl (lv_at hl 0 rfl) ?_
  refine hp_obj hx hb hml hown hS ol_X4_3 hl.1 dX4_init_1 (Nat.le_of_ble_eq_true rfl) (Nat.le_of_ble_eq_true rfl) (Nat.le_of_ble_eq_true rfl) ?_
  refine lv_aload_n hx hb dX4_init_4 rfl (lv_at hl 0 rfl) ?_
  refine hp_gets hx hb hS.k0 hH hown G_X4_9 hS dX4_init_5 ?_
  refine hp_put hx hb hown hS.2.1 hH (P_X4_15.use hS) f_f rfl rfl (Nat.le_of_ble_eq_true rfl) dX4_init_8 (fun H locs μ1 fz fn hH => ?_)
  have f_f : μ1 f = some (hp_o 2 [.ref (X.2.2.2 0), .int (nI 0), .int (nI 0), .long (lN 0), .int (nI 0)]) := fz
  have fr := hp_eq.put fr (by simp) fn
  clear fz fn
  exact hp_rv hx hb hr hlocks hS hH (⟨rfl, f_f, fr⟩) dX4_init_11
end
section
set_option maxHeartbeats 4000000 in
set_option maxRecDepth 100000 in
theorem c_X4_read (l : Launch) (X : hp_X) {μ : hp_M} {nx : Nat} {f k0 lv0 se0 td0 tc0 : Nat} {r b room size : Nat} {rb : Nat → Nat} (h01 : ∀ j, rb j < 2) (hr1 : room < 2 ^ 20) (hs1 : size ≤ room) (f_f : μ f = some (hp_o 2 [.ref (X.2.2.2 k0), .int (nI lv0), .int (nI se0), .long (lN td0), .int (nI tc0)])) (f_r : μ r = some (hp_o 4 [.ref b, .int (nI size)])) (f_b : μ b = some (hp_n X room rb)) : Ct l X yX4_read cX4_read 5 (none : Option Jvm.ClassFile.FieldType) 2 80 0 0 [.ref f, .ref r] μ nx (hq_v X (po_v nx (fun z => ∃ td tc : Nat, z f = some (hp_o 2 [.ref (X.2.2.2 (rdK rb size)), .int (nI (lvOf (valN rb size 0 8))), .int (nI (valN rb size 9 8)), .long (lN td), .int (nI tc)]) ∧ (rdK rb size = 3 → td = tdN rb size (size / 9 - 2) (size % 9) ∧ tc = 8 * (size / 9 - 2) + size % 9) ∧ (rdK rb size = 4 → td = tdN rb size 5 0 ∧ tc = 40) ∧ hp_eq [f] z μ))) := by
  refine hp_met (by decide) (Nat.le_of_ble_eq_true rfl) ?_
  intro p e s m below meth c ls hx hb hml hr hlocks hown hin hS hH hl
  have hl : lv_has ls 5 [(0, .ref f), (1, .ref r)] := hl
  have fr : hp_eq [f] μ μ := fun _ _ => rfl
  have hr1 : room < 2 ^ 30 := by omega
  refine lv_aload_n hx hb dX4_read_0 rfl (lv_at hl 1 rfl) ?_
  refine hp_get hx hb hown hS.2.1 hH (F_X4_20.use hS) f_r rfl dX4_read_1 ?_
  refine lv_bipush (v := nI 9) hx hb dX4_read_4 (by decide) ?_
  refine lv_idiv hx hb dX4_read_6 (nI_ne0 (by omega) (by omega)) ?_
  refine hp_eqi (z := nI (size / 9)) (pk_div (by omega) (by omega) (by omega)) ?_
  refine lv_istore_n (lv' := [(2, .int (nI (size / 9))), (0, .ref f), (1, .ref r)]) hx hb dX4_read_7 rfl hl (by decide) rfl (fun ls hl => ?_)
  refine lv_aload_n hx hb dX4_read_8 rfl (lv_at hl 2 rfl) ?_
  refine hp_get hx hb hown hS.2.1 hH (F_X4_20.use hS) f_r rfl dX4_read_9 ?_
  refine lv_bipush (v := nI 9) hx hb dX4_read_12 (by decide) ?_
  refine lv_irem hx hb dX4_read_14 (nI_ne0 (by omega) (by omega)) ?_
  refine hp_eqi (z := nI (size % 9)) (pk_rem (by omega) (by omega) (by omega)) ?_
  refine lv_istore_n (lv' := [(3, .int (nI (size % 9))), (2, .int (nI (size / 9))), (0, .ref f), (1, .ref r)]) hx hb dX4_read_15 rfl hl (by decide) rfl (fun ls hl => ?_)
  refine lv_aload_n hx hb dX4_read_16 rfl (lv_at hl 3 rfl) ?_
  refine lv_iconst (v := nI 0) hx hb dX4_read_17 (by decide) ?_
  refine lv_bipush (v := nI 8) hx hb dX4_read_18 (by decide) ?_
  refine hp_kip (hp_runV (As := [.int (nI 0), .int (nI 8)]) (rest := []) hx hb hml hown hS hH (c_X8_valueAt l X (fm := 0) (n := 8) h01 hr1 (by omega) (by omega) hs1 f_r f_b) M_X4_26 I_X8_valueAt V_X8_valueAt (ci := 4) rfl rfl f_r rfl hl.1 rfl (Nat.le_of_ble_eq_true rfl) dX4_read_20 ⟨Nat.le_of_ble_eq_true rfl, Nat.le_of_ble_eq_true rfl⟩ ⟨Nat.le_of_ble_eq_true rfl, Nat.le_of_ble_eq_true rfl⟩) hH (fun H locs hH => ?_)
  have hfi := valN_lt h01 size 0 8
  refine lv_istore (lv' := [(4, .int (nI (valN rb size 0 8))), (3, .int (nI (size % 9))), (2, .int (nI (size / 9))), (0, .ref f), (1, .ref r)]) hx hb dX4_read_23 hl (by decide) rfl (fun ls hl => ?_)
  refine lv_aload_n hx hb dX4_read_25 rfl (lv_at hl 3 rfl) ?_
  refine lv_aload_n hx hb dX4_read_26 rfl (lv_at hl 4 rfl) ?_
  refine lv_bipush (v := nI 9) hx hb dX4_read_27 (by decide) ?_
  refine lv_bipush (v := nI 8) hx hb dX4_read_29 (by decide) ?_
  refine hp_kip (hp_runV (As := [.int (nI 9), .int (nI 8)]) (rest := [.ref f]) hx hb hml hown hS hH (c_X8_valueAt l X (fm := 9) (n := 8) h01 hr1 (by omega) (by omega) hs1 f_r f_b) M_X4_26 I_X8_valueAt V_X8_valueAt (ci := 4) rfl rfl f_r rfl hl.1 rfl (Nat.le_of_ble_eq_true rfl) dX4_read_31 ⟨Nat.le_of_ble_eq_true rfl, Nat.le_of_ble_eq_true rfl⟩ ⟨Nat.le_of_ble_eq_true rfl, Nat.le_of_ble_eq_true rfl⟩) hH (fun H locs hH => ?_)
  have hse := valN_lt h01 size 9 8
  refine hp_put hx hb hown hS.2.1 hH (P_X4_30.use hS) f_f rfl rfl (Nat.le_of_ble_eq_true rfl) dX4_read_34 (fun H locs μ1 fz fn hH => ?_)
  have f_r := (fn _ (hp_ne f_r f_f (by simp))).trans f_r
  have f_b := (fn _ (hp_ne f_b f_f (by simp))).trans f_b
  have f_f : μ1 f = some (hp_o 2 [.ref (X.2.2.2 k0), .int (nI lv0), .int (nI (valN rb size 9 8)), .long (lN td0), .int (nI tc0)]) := fz
  have fr := hp_eq.put fr (by simp) fn
  clear fz fn
  refine lv_aload_n hx hb dX4_read_37 rfl (lv_at hl 3 rfl) ?_
  refine lv_iload hx hb dX4_read_38 (lv_at hl 0 rfl) ?_
  refine hp_kip (hp_runS (As := [.int (nI (valN rb size 0 8))]) (rest := [.ref f]) hx hb hml hown hS hH (c_X4_levelOf l X (v := valN rb size 0 8) (by omega)) M_X4_33 S_X4_levelOf rfl hl.1 rfl (Nat.le_of_ble_eq_true rfl) dX4_read_40 ⟨Nat.le_of_ble_eq_true rfl, Nat.le_of_ble_eq_true rfl⟩ ⟨Nat.le_of_ble_eq_true rfl, Nat.le_of_ble_eq_true rfl⟩) hH (fun H locs hH => ?_)
  have hlv := lvOf_le (valN rb size 0 8)
  refine hp_put hx hb hown hS.2.1 hH (P_X4_37.use hS) f_f rfl rfl (Nat.le_of_ble_eq_true rfl) dX4_read_43 (fun H locs μ1 fz fn hH => ?_)
  have f_r := (fn _ (hp_ne f_r f_f (by simp))).trans f_r
  have f_b := (fn _ (hp_ne f_b f_f (by simp))).trans f_b
  have f_f : μ1 f = some (hp_o 2 [.ref (X.2.2.2 k0), .int (nI (lvOf (valN rb size 0 8))), .int (nI (valN rb size 9 8)), .long (lN td0), .int (nI tc0)]) := fz
  have fr := hp_eq.put fr (by simp) fn
  clear fz fn
  refine lv_aload_n hx hb dX4_read_46 rfl (lv_at hl 4 rfl) ?_
  refine hp_get hx hb hown hS.2.1 hH (F_X4_20.use hS) f_r rfl dX4_read_47 ?_
  refine lv_bipush (v := nI 7) hx hb dX4_read_50 (by decide) ?_
  refine lv_icmp_ne (tgt := 67) hx hb dX4_read_52 (by decide) (fun c_52 => ?_) (fun c_52 => ?_)
  · have c_52 : ¬ (size = 7) := fun z => c_52 ((nI_eq (by omega) (by omega)).mpr z)
    refine lv_iload_n hx hb dX4_read_67 rfl (lv_at hl 2 rfl) ?_
    refine lv_iconst (v := nI 2) hx hb dX4_read_68 (by decide) ?_
    refine lv_icmp_lt (tgt := 80) hx hb dX4_read_69 (by decide) (fun c_69 => ?_) (fun c_69 => ?_)
    · have c_69 : (size / 9) < 2 := (nI_ltI (by omega) (by omega)).mp c_69
      refine lv_aload_n hx hb dX4_read_80 rfl (lv_at hl 3 rfl) ?_
      refine hp_gets hx hb hS.k0 hH hown G_X4_9 hS dX4_read_81 ?_
      refine hp_put hx hb hown hS.2.1 hH (P_X4_15.use hS) f_f rfl rfl (Nat.le_of_ble_eq_true rfl) dX4_read_84 (fun H locs μ1 fz fn hH => ?_)
      have f_r := (fn _ (hp_ne f_r f_f (by simp))).trans f_r
      have f_b := (fn _ (hp_ne f_b f_f (by simp))).trans f_b
      have f_f : μ1 f = some (hp_o 2 [.ref (X.2.2.2 0), .int (nI (lvOf (valN rb size 0 8))), .int (nI (valN rb size 9 8)), .long (lN td0), .int (nI tc0)]) := fz
      have fr := hp_eq.put fr (by simp) fn
      clear fz fn
      refine lv_goto (tgt := 213) hx hb dX4_read_87 (by decide) ?_
      have hk : rdK rb size = 0 := by unfold rdK; first | rw [if_neg c_52, if_pos (Or.inl c_69)] | rw [if_neg c_52, if_pos (Or.inr c_77)] | rw [if_neg c_52, if_neg (fun q => q.elim (fun q => absurd q c_69) (fun q => absurd (c_77.symm.trans q) (by decide))), if_neg (by omega), if_pos (by omega)]
      exact hp_rv hx hb hr hlocks hS hH (⟨rfl, ⟨td0, tc0, by rw [hk]; exact f_f, fun q => absurd (hk.symm.trans q) (by decide), fun q => absurd (hk.symm.trans q) (by decide), fr⟩⟩) dX4_read_213
    · have c_69 : ¬ ((size / 9) < 2) := fun z => c_69 ((nI_ltI (by omega) (by omega)).mpr z)
      refine lv_aload_n hx hb dX4_read_72 rfl (lv_at hl 4 rfl) ?_
      refine lv_iload_n hx hb dX4_read_73 rfl (lv_at hl 2 rfl) ?_
      refine hp_kip (hp_runV (As := [.int (nI (size / 9))]) (rest := []) hx hb hml hown hS hH (c_X8_beginsWithOctets l X (n := size / 9) h01 hr1 (by omega) hs1 f_r f_b) M_X4_44 I_X8_beginsWithOctets V_X8_beginsWithOctets (ci := 4) rfl rfl f_r rfl hl.1 rfl (Nat.le_of_ble_eq_true rfl) dX4_read_74 ⟨Nat.le_of_ble_eq_true rfl, Nat.le_of_ble_eq_true rfl⟩ ⟨Nat.le_of_ble_eq_true rfl, Nat.le_of_ble_eq_true rfl⟩) hH (fun H locs hH => ?_)
      refine lv_if_ne (tgt := 90) hx hb dX4_read_77 (by decide) (fun c_77 => ?_) (fun c_77 => ?_)
      · have c_77 : (begN rb size (size / 9)) = true := nB_n c_77
        refine lv_aload_n hx hb dX4_read_90 rfl (lv_at hl 3 rfl) ?_
        refine hp_get hx hb hown hS.2.1 hH (F_X4_37.use hS) f_f rfl dX4_read_91 ?_
        refine lv_if_le (tgt := 141) hx hb dX4_read_94 (by decide) (fun c_94 => ?_) (fun c_94 => ?_)
        · have c_94 : (lvOf (valN rb size 0 8)) = 0 := nz_le (by omega) c_94
          refine lv_iload_n hx hb dX4_read_141 rfl (lv_at hl 1 rfl) ?_
          refine lv_if_gt (tgt := 153) hx hb dX4_read_142 (by decide) (fun c_142 => ?_) (fun c_142 => ?_)
          · have c_142 : 0 < (size % 9) := nz_gt (by omega) c_142
            refine lv_aload_n hx hb dX4_read_153 rfl (lv_at hl 3 rfl) ?_
            refine hp_gets hx hb hS.k0 hH hown G_X4_9 hS dX4_read_154 ?_
            refine hp_put hx hb hown hS.2.1 hH (P_X4_15.use hS) f_f rfl rfl (Nat.le_of_ble_eq_true rfl) dX4_read_157 (fun H locs μ1 fz fn hH => ?_)
            have f_r := (fn _ (hp_ne f_r f_f (by simp))).trans f_r
            have f_b := (fn _ (hp_ne f_b f_f (by simp))).trans f_b
            have f_f : μ1 f = some (hp_o 2 [.ref (X.2.2.2 0), .int (nI (lvOf (valN rb size 0 8))), .int (nI (valN rb size 9 8)), .long (lN td0), .int (nI tc0)]) := fz
            have fr := hp_eq.put fr (by simp) fn
            clear fz fn
            refine lv_goto (tgt := 213) hx hb dX4_read_160 (by decide) ?_
            have hk : rdK rb size = 0 := by unfold rdK; first | rw [if_neg c_52, if_pos (Or.inl c_69)] | rw [if_neg c_52, if_pos (Or.inr c_77)] | rw [if_neg c_52, if_neg (fun q => q.elim (fun q => absurd q c_69) (fun q => absurd (c_77.symm.trans q) (by decide))), if_neg (by omega), if_pos (by omega)]
            exact hp_rv hx hb hr hlocks hS hH (⟨rfl, ⟨td0, tc0, by rw [hk]; exact f_f, fun q => absurd (hk.symm.trans q) (by decide), fun q => absurd (hk.symm.trans q) (by decide), fr⟩⟩) dX4_read_213
          · have c_142 : (size % 9) = 0 := nz_ngt (by omega) c_142
            refine lv_aload_n hx hb dX4_read_145 rfl (lv_at hl 4 rfl) ?_
            refine lv_iload_n hx hb dX4_read_146 rfl (lv_at hl 2 rfl) ?_
            refine hp_kip (hp_runV (As := [.int (nI (size / 9))]) (rest := []) hx hb hml hown hS hH (c_X8_checkOf l X (n := size / 9) h01 hr1 (by omega) hs1 f_r f_b) M_X4_55 I_X8_checkOf V_X8_checkOf (ci := 4) rfl rfl f_r rfl hl.1 rfl (Nat.le_of_ble_eq_true rfl) dX4_read_147 ⟨Nat.le_of_ble_eq_true rfl, Nat.le_of_ble_eq_true rfl⟩ ⟨Nat.le_of_ble_eq_true rfl, Nat.le_of_ble_eq_true rfl⟩) hH (fun H locs hH => ?_)
            have hcr := crcN_lt rb size (size / 9)
            refine lv_if_eq (tgt := 163) hx hb dX4_read_150 (by decide) (fun c_150 => ?_) (fun c_150 => ?_)
            · have c_150 : (crcN rb size (size / 9)) = 0 := nz_0 (by omega) c_150
              refine lv_aload_n hx hb dX4_read_163 rfl (lv_at hl 3 rfl) ?_
              refine hp_get hx hb hown hS.2.1 hH (F_X4_37.use hS) f_f rfl dX4_read_164 ?_
              refine lv_if_le (tgt := 202) hx hb dX4_read_167 (by decide) (fun c_167 => ?_) (fun c_167 => ?_)
              · have c_167 : (lvOf (valN rb size 0 8)) = 0 := nz_le (by omega) c_167
                refine lv_aload_n hx hb dX4_read_202 rfl (lv_at hl 3 rfl) ?_
                refine lv_aload_n hx hb dX4_read_203 rfl (lv_at hl 3 rfl) ?_
                refine lv_iload hx hb dX4_read_204 (lv_at hl 0 rfl) ?_
                refine lv_iload_n hx hb dX4_read_206 rfl (lv_at hl 2 rfl) ?_
                refine hp_krp (hp_runV (As := [.int (nI (valN rb size 0 8)), .int (nI (size / 9))]) (rest := [.ref f]) hx hb hml hown hS hH (c_X4_kindOfCommand l X (fi := valN rb size 0 8) (oc := size / 9) (by omega) (by omega) (by omega) f_f) M_X4_61 I_X4_kindOfCommand V_X4_kindOfCommand (ci := 2) rfl rfl f_f rfl hl.1 rfl (Nat.le_of_ble_eq_true rfl) dX4_read_207 ⟨Nat.le_of_ble_eq_true rfl, Nat.le_of_ble_eq_true rfl⟩ ⟨Nat.le_of_ble_eq_true rfl, Nat.le_of_ble_eq_true rfl⟩) hH (fun H locs hH => ?_)
                refine hp_put hx hb hown hS.2.1 hH (P_X4_15.use hS) f_f rfl rfl (Nat.le_of_ble_eq_true rfl) dX4_read_210 (fun H locs μ1 fz fn hH => ?_)
                have f_r := (fn _ (hp_ne f_r f_f (by simp))).trans f_r
                have f_b := (fn _ (hp_ne f_b f_f (by simp))).trans f_b
                have f_f : μ1 f = some (hp_o 2 [.ref (X.2.2.2 (kdC (valN rb size 0 8) (size / 9) (valN rb size 9 8))), .int (nI (lvOf (valN rb size 0 8))), .int (nI (valN rb size 9 8)), .long (lN td0), .int (nI tc0)]) := fz
                have fr := hp_eq.put fr (by simp) fn
                clear fz fn
                have hk : rdK rb size = (kdC (valN rb size 0 8) (size / 9) (valN rb size 9 8)) := by unfold rdK; rw [if_neg c_52, if_neg (fun q => q.elim (fun q => absurd q c_69) (fun q => absurd (c_77.symm.trans q) (by decide))), if_neg (by omega), if_neg (by omega), if_neg (by omega)]
                exact hp_rv hx hb hr hlocks hS hH (⟨rfl, ⟨td0, tc0, by rw [hk]; exact f_f, fun q => absurd (hk.symm.trans q) (by first | (unfold kdS; split <;> (try split) <;> omega) | (unfold kdC; split <;> (try split) <;> (try split) <;> omega)), fun q => absurd (hk.symm.trans q) (by first | (unfold kdS; split <;> (try split) <;> omega) | (unfold kdC; split <;> (try split) <;> (try split) <;> omega)), fr⟩⟩) dX4_read_213
              · have c_167 : 0 < (lvOf (valN rb size 0 8)) := nz_nle (by omega) c_167
                refine lv_iload_n hx hb dX4_read_170 rfl (lv_at hl 2 rfl) ?_
                refine lv_bipush (v := nI 9) hx hb dX4_read_171 (by decide) ?_
                refine lv_icmp_ne (tgt := 202) hx hb dX4_read_173 (by decide) (fun c_173 => ?_) (fun c_173 => ?_)
                · have c_173 : ¬ ((size / 9) = 9) := fun z => c_173 ((nI_eq (by omega) (by omega)).mpr z)
                  refine lv_aload_n hx hb dX4_read_202 rfl (lv_at hl 3 rfl) ?_
                  refine lv_aload_n hx hb dX4_read_203 rfl (lv_at hl 3 rfl) ?_
                  refine lv_iload hx hb dX4_read_204 (lv_at hl 0 rfl) ?_
                  refine lv_iload_n hx hb dX4_read_206 rfl (lv_at hl 2 rfl) ?_
                  refine hp_krp (hp_runV (As := [.int (nI (valN rb size 0 8)), .int (nI (size / 9))]) (rest := [.ref f]) hx hb hml hown hS hH (c_X4_kindOfCommand l X (fi := valN rb size 0 8) (oc := size / 9) (by omega) (by omega) (by omega) f_f) M_X4_61 I_X4_kindOfCommand V_X4_kindOfCommand (ci := 2) rfl rfl f_f rfl hl.1 rfl (Nat.le_of_ble_eq_true rfl) dX4_read_207 ⟨Nat.le_of_ble_eq_true rfl, Nat.le_of_ble_eq_true rfl⟩ ⟨Nat.le_of_ble_eq_true rfl, Nat.le_of_ble_eq_true rfl⟩) hH (fun H locs hH => ?_)
                  refine hp_put hx hb hown hS.2.1 hH (P_X4_15.use hS) f_f rfl rfl (Nat.le_of_ble_eq_true rfl) dX4_read_210 (fun H locs μ1 fz fn hH => ?_)
                  have f_r := (fn _ (hp_ne f_r f_f (by simp))).trans f_r
                  have f_b := (fn _ (hp_ne f_b f_f (by simp))).trans f_b
                  have f_f : μ1 f = some (hp_o 2 [.ref (X.2.2.2 (kdC (valN rb size 0 8) (size / 9) (valN rb size 9 8))), .int (nI (lvOf (valN rb size 0 8))), .int (nI (valN rb size 9 8)), .long (lN td0), .int (nI tc0)]) := fz
                  have fr := hp_eq.put fr (by simp) fn
                  clear fz fn
                  have hk : rdK rb size = (kdC (valN rb size 0 8) (size / 9) (valN rb size 9 8)) := by unfold rdK; rw [if_neg c_52, if_neg (fun q => q.elim (fun q => absurd q c_69) (fun q => absurd (c_77.symm.trans q) (by decide))), if_neg (by omega), if_neg (by omega), if_neg (by omega)]
                  exact hp_rv hx hb hr hlocks hS hH (⟨rfl, ⟨td0, tc0, by rw [hk]; exact f_f, fun q => absurd (hk.symm.trans q) (by first | (unfold kdS; split <;> (try split) <;> omega) | (unfold kdC; split <;> (try split) <;> (try split) <;> omega)), fun q => absurd (hk.symm.trans q) (by first | (unfold kdS; split <;> (try split) <;> omega) | (unfold kdC; split <;> (try split) <;> (try split) <;> omega)), fr⟩⟩) dX4_read_213
                · have c_173 : (size / 9) = 9 := (nI_eq (by omega) (by omega)).mp c_173
                  refine lv_aload_n hx hb dX4_read_176 rfl (lv_at hl 3 rfl) ?_
                  refine hp_get hx hb hown hS.2.1 hH (F_X4_30.use hS) f_f rfl dX4_read_177 ?_
                  refine lv_bipush (v := nI 112) hx hb dX4_read_180 (by decide) ?_
                  refine lv_icmp_ne (tgt := 202) hx hb dX4_read_182 (by decide) (fun c_182 => ?_) (fun c_182 => ?_)
                  · have c_182 : ¬ ((valN rb size 9 8) = 112) := fun z => c_182 ((nI_eq (by omega) (by omega)).mpr z)
                    refine lv_aload_n hx hb dX4_read_202 rfl (lv_at hl 3 rfl) ?_
                    refine lv_aload_n hx hb dX4_read_203 rfl (lv_at hl 3 rfl) ?_
                    refine lv_iload hx hb dX4_read_204 (lv_at hl 0 rfl) ?_
                    refine lv_iload_n hx hb dX4_read_206 rfl (lv_at hl 2 rfl) ?_
                    refine hp_krp (hp_runV (As := [.int (nI (valN rb size 0 8)), .int (nI (size / 9))]) (rest := [.ref f]) hx hb hml hown hS hH (c_X4_kindOfCommand l X (fi := valN rb size 0 8) (oc := size / 9) (by omega) (by omega) (by omega) f_f) M_X4_61 I_X4_kindOfCommand V_X4_kindOfCommand (ci := 2) rfl rfl f_f rfl hl.1 rfl (Nat.le_of_ble_eq_true rfl) dX4_read_207 ⟨Nat.le_of_ble_eq_true rfl, Nat.le_of_ble_eq_true rfl⟩ ⟨Nat.le_of_ble_eq_true rfl, Nat.le_of_ble_eq_true rfl⟩) hH (fun H locs hH => ?_)
                    refine hp_put hx hb hown hS.2.1 hH (P_X4_15.use hS) f_f rfl rfl (Nat.le_of_ble_eq_true rfl) dX4_read_210 (fun H locs μ1 fz fn hH => ?_)
                    have f_r := (fn _ (hp_ne f_r f_f (by simp))).trans f_r
                    have f_b := (fn _ (hp_ne f_b f_f (by simp))).trans f_b
                    have f_f : μ1 f = some (hp_o 2 [.ref (X.2.2.2 (kdC (valN rb size 0 8) (size / 9) (valN rb size 9 8))), .int (nI (lvOf (valN rb size 0 8))), .int (nI (valN rb size 9 8)), .long (lN td0), .int (nI tc0)]) := fz
                    have fr := hp_eq.put fr (by simp) fn
                    clear fz fn
                    have hk : rdK rb size = (kdC (valN rb size 0 8) (size / 9) (valN rb size 9 8)) := by unfold rdK; rw [if_neg c_52, if_neg (fun q => q.elim (fun q => absurd q c_69) (fun q => absurd (c_77.symm.trans q) (by decide))), if_neg (by omega), if_neg (by omega), if_neg (by omega)]
                    exact hp_rv hx hb hr hlocks hS hH (⟨rfl, ⟨td0, tc0, by rw [hk]; exact f_f, fun q => absurd (hk.symm.trans q) (by first | (unfold kdS; split <;> (try split) <;> omega) | (unfold kdC; split <;> (try split) <;> (try split) <;> omega)), fun q => absurd (hk.symm.trans q) (by first | (unfold kdS; split <;> (try split) <;> omega) | (unfold kdC; split <;> (try split) <;> (try split) <;> omega)), fr⟩⟩) dX4_read_213
                  · have c_182 : (valN rb size 9 8) = 112 := (nI_eq (by omega) (by omega)).mp c_182
                    refine lv_aload_n hx hb dX4_read_185 rfl (lv_at hl 3 rfl) ?_
                    refine hp_gets hx hb hS.k4 hH hown G_X4_58 hS dX4_read_186 ?_
                    refine hp_put hx hb hown hS.2.1 hH (P_X4_15.use hS) f_f rfl rfl (Nat.le_of_ble_eq_true rfl) dX4_read_189 (fun H locs μ1 fz fn hH => ?_)
                    have f_r := (fn _ (hp_ne f_r f_f (by simp))).trans f_r
                    have f_b := (fn _ (hp_ne f_b f_f (by simp))).trans f_b
                    have f_f : μ1 f = some (hp_o 2 [.ref (X.2.2.2 4), .int (nI (lvOf (valN rb size 0 8))), .int (nI (valN rb size 9 8)), .long (lN td0), .int (nI tc0)]) := fz
                    have fr := hp_eq.put fr (by simp) fn
                    clear fz fn
                    refine lv_aload_n hx hb dX4_read_192 rfl (lv_at hl 3 rfl) ?_
                    refine lv_aload_n hx hb dX4_read_193 rfl (lv_at hl 4 rfl) ?_
                    refine lv_iconst (v := nI 5) hx hb dX4_read_194 (by decide) ?_
                    refine lv_iconst (v := nI 0) hx hb dX4_read_195 (by decide) ?_
                    refine hp_kvm (hp_runV (As := [.ref r, .int (nI 5), .int (nI 0)]) (rest := []) hx hb hml hown hS hH (c_X4_readTold l X (by1 := 5) (ov := 0) h01 hr1 hs1 (by omega) (by omega) f_f f_r f_b) M_X4_51 I_X4_readTold V_X4_readTold (ci := 2) rfl rfl f_f rfl hl.1 rfl (Nat.le_of_ble_eq_true rfl) dX4_read_196 ⟨Nat.le_of_ble_eq_true rfl, Nat.le_of_ble_eq_true rfl⟩ ⟨Nat.le_of_ble_eq_true rfl, Nat.le_of_ble_eq_true rfl⟩) hH (fun μ1 H locs hp hH => ?_)
                    obtain ⟨fz0, fe⟩ := hp
                    have f_r := (hp_e1 fe (hp_ne f_r f_f (by simp))).trans f_r
                    have f_b := (hp_e1 fe (hp_ne f_b f_f (by simp))).trans f_b
                    have f_f : μ1 f = some (hp_o 2 [.ref (X.2.2.2 4), .int (nI (lvOf (valN rb size 0 8))), .int (nI (valN rb size 9 8)), .long (lN (tdN rb size (5) (0))), .int (nI (8 * (5) + 0))]) := fz0
                    have fr := hp_eq.tr1 fe fr (by simp)
                    clear fe fz0
                    refine lv_goto (tgt := 213) hx hb dX4_read_199 (by decide) ?_
                    have hk : rdK rb size = 4 := by unfold rdK; rw [if_neg c_52, if_neg (fun q => q.elim (fun q => absurd q c_69) (fun q => absurd (c_77.symm.trans q) (by decide))), if_neg (by omega), if_neg (by omega), if_pos ⟨by omega, by omega, by omega⟩]
                    exact hp_rv hx hb hr hlocks hS hH (⟨rfl, ⟨tdN rb size (5) (0), 8 * (5) + 0, by rw [hk]; exact f_f, fun q => absurd (hk.symm.trans q) (by decide), fun _ => ⟨rfl, rfl⟩, fr⟩⟩) dX4_read_213
            · have c_150 : ¬ (crcN rb size (size / 9) = 0) := nz_n (by omega) c_150
              refine lv_aload_n hx hb dX4_read_153 rfl (lv_at hl 3 rfl) ?_
              refine hp_gets hx hb hS.k0 hH hown G_X4_9 hS dX4_read_154 ?_
              refine hp_put hx hb hown hS.2.1 hH (P_X4_15.use hS) f_f rfl rfl (Nat.le_of_ble_eq_true rfl) dX4_read_157 (fun H locs μ1 fz fn hH => ?_)
              have f_r := (fn _ (hp_ne f_r f_f (by simp))).trans f_r
              have f_b := (fn _ (hp_ne f_b f_f (by simp))).trans f_b
              have f_f : μ1 f = some (hp_o 2 [.ref (X.2.2.2 0), .int (nI (lvOf (valN rb size 0 8))), .int (nI (valN rb size 9 8)), .long (lN td0), .int (nI tc0)]) := fz
              have fr := hp_eq.put fr (by simp) fn
              clear fz fn
              refine lv_goto (tgt := 213) hx hb dX4_read_160 (by decide) ?_
              have hk : rdK rb size = 0 := by unfold rdK; first | rw [if_neg c_52, if_pos (Or.inl c_69)] | rw [if_neg c_52, if_pos (Or.inr c_77)] | rw [if_neg c_52, if_neg (fun q => q.elim (fun q => absurd q c_69) (fun q => absurd (c_77.symm.trans q) (by decide))), if_neg (by omega), if_pos (by omega)]
              exact hp_rv hx hb hr hlocks hS hH (⟨rfl, ⟨td0, tc0, by rw [hk]; exact f_f, fun q => absurd (hk.symm.trans q) (by decide), fun q => absurd (hk.symm.trans q) (by decide), fr⟩⟩) dX4_read_213
        · have c_94 : 0 < (lvOf (valN rb size 0 8)) := nz_nle (by omega) c_94
          refine lv_iload_n hx hb dX4_read_97 rfl (lv_at hl 2 rfl) ?_
          refine lv_bipush (v := nI 6) hx hb dX4_read_98 (by decide) ?_
          refine lv_icmp_gt (tgt := 141) hx hb dX4_read_100 (by decide) (fun c_100 => ?_) (fun c_100 => ?_)
          · have c_100 : 6 < (size / 9) := (nI_ltI (by omega) (by omega)).mp c_100
            refine lv_iload_n hx hb dX4_read_141 rfl (lv_at hl 1 rfl) ?_
            refine lv_if_gt (tgt := 153) hx hb dX4_read_142 (by decide) (fun c_142 => ?_) (fun c_142 => ?_)
            · have c_142 : 0 < (size % 9) := nz_gt (by omega) c_142
              refine lv_aload_n hx hb dX4_read_153 rfl (lv_at hl 3 rfl) ?_
              refine hp_gets hx hb hS.k0 hH hown G_X4_9 hS dX4_read_154 ?_
              refine hp_put hx hb hown hS.2.1 hH (P_X4_15.use hS) f_f rfl rfl (Nat.le_of_ble_eq_true rfl) dX4_read_157 (fun H locs μ1 fz fn hH => ?_)
              have f_r := (fn _ (hp_ne f_r f_f (by simp))).trans f_r
              have f_b := (fn _ (hp_ne f_b f_f (by simp))).trans f_b
              have f_f : μ1 f = some (hp_o 2 [.ref (X.2.2.2 0), .int (nI (lvOf (valN rb size 0 8))), .int (nI (valN rb size 9 8)), .long (lN td0), .int (nI tc0)]) := fz
              have fr := hp_eq.put fr (by simp) fn
              clear fz fn
              refine lv_goto (tgt := 213) hx hb dX4_read_160 (by decide) ?_
              have hk : rdK rb size = 0 := by unfold rdK; first | rw [if_neg c_52, if_pos (Or.inl c_69)] | rw [if_neg c_52, if_pos (Or.inr c_77)] | rw [if_neg c_52, if_neg (fun q => q.elim (fun q => absurd q c_69) (fun q => absurd (c_77.symm.trans q) (by decide))), if_neg (by omega), if_pos (by omega)]
              exact hp_rv hx hb hr hlocks hS hH (⟨rfl, ⟨td0, tc0, by rw [hk]; exact f_f, fun q => absurd (hk.symm.trans q) (by decide), fun q => absurd (hk.symm.trans q) (by decide), fr⟩⟩) dX4_read_213
            · have c_142 : (size % 9) = 0 := nz_ngt (by omega) c_142
              refine lv_aload_n hx hb dX4_read_145 rfl (lv_at hl 4 rfl) ?_
              refine lv_iload_n hx hb dX4_read_146 rfl (lv_at hl 2 rfl) ?_
              refine hp_kip (hp_runV (As := [.int (nI (size / 9))]) (rest := []) hx hb hml hown hS hH (c_X8_checkOf l X (n := size / 9) h01 hr1 (by omega) hs1 f_r f_b) M_X4_55 I_X8_checkOf V_X8_checkOf (ci := 4) rfl rfl f_r rfl hl.1 rfl (Nat.le_of_ble_eq_true rfl) dX4_read_147 ⟨Nat.le_of_ble_eq_true rfl, Nat.le_of_ble_eq_true rfl⟩ ⟨Nat.le_of_ble_eq_true rfl, Nat.le_of_ble_eq_true rfl⟩) hH (fun H locs hH => ?_)
              have hcr := crcN_lt rb size (size / 9)
              refine lv_if_eq (tgt := 163) hx hb dX4_read_150 (by decide) (fun c_150 => ?_) (fun c_150 => ?_)
              · have c_150 : (crcN rb size (size / 9)) = 0 := nz_0 (by omega) c_150
                refine lv_aload_n hx hb dX4_read_163 rfl (lv_at hl 3 rfl) ?_
                refine hp_get hx hb hown hS.2.1 hH (F_X4_37.use hS) f_f rfl dX4_read_164 ?_
                refine lv_if_le (tgt := 202) hx hb dX4_read_167 (by decide) (fun c_167 => ?_) (fun c_167 => ?_)
                · have c_167 : (lvOf (valN rb size 0 8)) = 0 := nz_le (by omega) c_167
                  refine lv_aload_n hx hb dX4_read_202 rfl (lv_at hl 3 rfl) ?_
                  refine lv_aload_n hx hb dX4_read_203 rfl (lv_at hl 3 rfl) ?_
                  refine lv_iload hx hb dX4_read_204 (lv_at hl 0 rfl) ?_
                  refine lv_iload_n hx hb dX4_read_206 rfl (lv_at hl 2 rfl) ?_
                  refine hp_krp (hp_runV (As := [.int (nI (valN rb size 0 8)), .int (nI (size / 9))]) (rest := [.ref f]) hx hb hml hown hS hH (c_X4_kindOfCommand l X (fi := valN rb size 0 8) (oc := size / 9) (by omega) (by omega) (by omega) f_f) M_X4_61 I_X4_kindOfCommand V_X4_kindOfCommand (ci := 2) rfl rfl f_f rfl hl.1 rfl (Nat.le_of_ble_eq_true rfl) dX4_read_207 ⟨Nat.le_of_ble_eq_true rfl, Nat.le_of_ble_eq_true rfl⟩ ⟨Nat.le_of_ble_eq_true rfl, Nat.le_of_ble_eq_true rfl⟩) hH (fun H locs hH => ?_)
                  refine hp_put hx hb hown hS.2.1 hH (P_X4_15.use hS) f_f rfl rfl (Nat.le_of_ble_eq_true rfl) dX4_read_210 (fun H locs μ1 fz fn hH => ?_)
                  have f_r := (fn _ (hp_ne f_r f_f (by simp))).trans f_r
                  have f_b := (fn _ (hp_ne f_b f_f (by simp))).trans f_b
                  have f_f : μ1 f = some (hp_o 2 [.ref (X.2.2.2 (kdC (valN rb size 0 8) (size / 9) (valN rb size 9 8))), .int (nI (lvOf (valN rb size 0 8))), .int (nI (valN rb size 9 8)), .long (lN td0), .int (nI tc0)]) := fz
                  have fr := hp_eq.put fr (by simp) fn
                  clear fz fn
                  have hk : rdK rb size = (kdC (valN rb size 0 8) (size / 9) (valN rb size 9 8)) := by unfold rdK; rw [if_neg c_52, if_neg (fun q => q.elim (fun q => absurd q c_69) (fun q => absurd (c_77.symm.trans q) (by decide))), if_neg (by omega), if_neg (by omega), if_neg (by omega)]
                  exact hp_rv hx hb hr hlocks hS hH (⟨rfl, ⟨td0, tc0, by rw [hk]; exact f_f, fun q => absurd (hk.symm.trans q) (by first | (unfold kdS; split <;> (try split) <;> omega) | (unfold kdC; split <;> (try split) <;> (try split) <;> omega)), fun q => absurd (hk.symm.trans q) (by first | (unfold kdS; split <;> (try split) <;> omega) | (unfold kdC; split <;> (try split) <;> (try split) <;> omega)), fr⟩⟩) dX4_read_213
                · have c_167 : 0 < (lvOf (valN rb size 0 8)) := nz_nle (by omega) c_167
                  refine lv_iload_n hx hb dX4_read_170 rfl (lv_at hl 2 rfl) ?_
                  refine lv_bipush (v := nI 9) hx hb dX4_read_171 (by decide) ?_
                  refine lv_icmp_ne (tgt := 202) hx hb dX4_read_173 (by decide) (fun c_173 => ?_) (fun c_173 => ?_)
                  · have c_173 : ¬ ((size / 9) = 9) := fun z => c_173 ((nI_eq (by omega) (by omega)).mpr z)
                    refine lv_aload_n hx hb dX4_read_202 rfl (lv_at hl 3 rfl) ?_
                    refine lv_aload_n hx hb dX4_read_203 rfl (lv_at hl 3 rfl) ?_
                    refine lv_iload hx hb dX4_read_204 (lv_at hl 0 rfl) ?_
                    refine lv_iload_n hx hb dX4_read_206 rfl (lv_at hl 2 rfl) ?_
                    refine hp_krp (hp_runV (As := [.int (nI (valN rb size 0 8)), .int (nI (size / 9))]) (rest := [.ref f]) hx hb hml hown hS hH (c_X4_kindOfCommand l X (fi := valN rb size 0 8) (oc := size / 9) (by omega) (by omega) (by omega) f_f) M_X4_61 I_X4_kindOfCommand V_X4_kindOfCommand (ci := 2) rfl rfl f_f rfl hl.1 rfl (Nat.le_of_ble_eq_true rfl) dX4_read_207 ⟨Nat.le_of_ble_eq_true rfl, Nat.le_of_ble_eq_true rfl⟩ ⟨Nat.le_of_ble_eq_true rfl, Nat.le_of_ble_eq_true rfl⟩) hH (fun H locs hH => ?_)
                    refine hp_put hx hb hown hS.2.1 hH (P_X4_15.use hS) f_f rfl rfl (Nat.le_of_ble_eq_true rfl) dX4_read_210 (fun H locs μ1 fz fn hH => ?_)
                    have f_r := (fn _ (hp_ne f_r f_f (by simp))).trans f_r
                    have f_b := (fn _ (hp_ne f_b f_f (by simp))).trans f_b
                    have f_f : μ1 f = some (hp_o 2 [.ref (X.2.2.2 (kdC (valN rb size 0 8) (size / 9) (valN rb size 9 8))), .int (nI (lvOf (valN rb size 0 8))), .int (nI (valN rb size 9 8)), .long (lN td0), .int (nI tc0)]) := fz
                    have fr := hp_eq.put fr (by simp) fn
                    clear fz fn
                    have hk : rdK rb size = (kdC (valN rb size 0 8) (size / 9) (valN rb size 9 8)) := by unfold rdK; rw [if_neg c_52, if_neg (fun q => q.elim (fun q => absurd q c_69) (fun q => absurd (c_77.symm.trans q) (by decide))), if_neg (by omega), if_neg (by omega), if_neg (by omega)]
                    exact hp_rv hx hb hr hlocks hS hH (⟨rfl, ⟨td0, tc0, by rw [hk]; exact f_f, fun q => absurd (hk.symm.trans q) (by first | (unfold kdS; split <;> (try split) <;> omega) | (unfold kdC; split <;> (try split) <;> (try split) <;> omega)), fun q => absurd (hk.symm.trans q) (by first | (unfold kdS; split <;> (try split) <;> omega) | (unfold kdC; split <;> (try split) <;> (try split) <;> omega)), fr⟩⟩) dX4_read_213
                  · have c_173 : (size / 9) = 9 := (nI_eq (by omega) (by omega)).mp c_173
                    refine lv_aload_n hx hb dX4_read_176 rfl (lv_at hl 3 rfl) ?_
                    refine hp_get hx hb hown hS.2.1 hH (F_X4_30.use hS) f_f rfl dX4_read_177 ?_
                    refine lv_bipush (v := nI 112) hx hb dX4_read_180 (by decide) ?_
                    refine lv_icmp_ne (tgt := 202) hx hb dX4_read_182 (by decide) (fun c_182 => ?_) (fun c_182 => ?_)
                    · have c_182 : ¬ ((valN rb size 9 8) = 112) := fun z => c_182 ((nI_eq (by omega) (by omega)).mpr z)
                      refine lv_aload_n hx hb dX4_read_202 rfl (lv_at hl 3 rfl) ?_
                      refine lv_aload_n hx hb dX4_read_203 rfl (lv_at hl 3 rfl) ?_
                      refine lv_iload hx hb dX4_read_204 (lv_at hl 0 rfl) ?_
                      refine lv_iload_n hx hb dX4_read_206 rfl (lv_at hl 2 rfl) ?_
                      refine hp_krp (hp_runV (As := [.int (nI (valN rb size 0 8)), .int (nI (size / 9))]) (rest := [.ref f]) hx hb hml hown hS hH (c_X4_kindOfCommand l X (fi := valN rb size 0 8) (oc := size / 9) (by omega) (by omega) (by omega) f_f) M_X4_61 I_X4_kindOfCommand V_X4_kindOfCommand (ci := 2) rfl rfl f_f rfl hl.1 rfl (Nat.le_of_ble_eq_true rfl) dX4_read_207 ⟨Nat.le_of_ble_eq_true rfl, Nat.le_of_ble_eq_true rfl⟩ ⟨Nat.le_of_ble_eq_true rfl, Nat.le_of_ble_eq_true rfl⟩) hH (fun H locs hH => ?_)
                      refine hp_put hx hb hown hS.2.1 hH (P_X4_15.use hS) f_f rfl rfl (Nat.le_of_ble_eq_true rfl) dX4_read_210 (fun H locs μ1 fz fn hH => ?_)
                      have f_r := (fn _ (hp_ne f_r f_f (by simp))).trans f_r
                      have f_b := (fn _ (hp_ne f_b f_f (by simp))).trans f_b
                      have f_f : μ1 f = some (hp_o 2 [.ref (X.2.2.2 (kdC (valN rb size 0 8) (size / 9) (valN rb size 9 8))), .int (nI (lvOf (valN rb size 0 8))), .int (nI (valN rb size 9 8)), .long (lN td0), .int (nI tc0)]) := fz
                      have fr := hp_eq.put fr (by simp) fn
                      clear fz fn
                      have hk : rdK rb size = (kdC (valN rb size 0 8) (size / 9) (valN rb size 9 8)) := by unfold rdK; rw [if_neg c_52, if_neg (fun q => q.elim (fun q => absurd q c_69) (fun q => absurd (c_77.symm.trans q) (by decide))), if_neg (by omega), if_neg (by omega), if_neg (by omega)]
                      exact hp_rv hx hb hr hlocks hS hH (⟨rfl, ⟨td0, tc0, by rw [hk]; exact f_f, fun q => absurd (hk.symm.trans q) (by first | (unfold kdS; split <;> (try split) <;> omega) | (unfold kdC; split <;> (try split) <;> (try split) <;> omega)), fun q => absurd (hk.symm.trans q) (by first | (unfold kdS; split <;> (try split) <;> omega) | (unfold kdC; split <;> (try split) <;> (try split) <;> omega)), fr⟩⟩) dX4_read_213
                    · have c_182 : (valN rb size 9 8) = 112 := (nI_eq (by omega) (by omega)).mp c_182
                      refine lv_aload_n hx hb dX4_read_185 rfl (lv_at hl 3 rfl) ?_
                      refine hp_gets hx hb hS.k4 hH hown G_X4_58 hS dX4_read_186 ?_
                      refine hp_put hx hb hown hS.2.1 hH (P_X4_15.use hS) f_f rfl rfl (Nat.le_of_ble_eq_true rfl) dX4_read_189 (fun H locs μ1 fz fn hH => ?_)
                      have f_r := (fn _ (hp_ne f_r f_f (by simp))).trans f_r
                      have f_b := (fn _ (hp_ne f_b f_f (by simp))).trans f_b
                      have f_f : μ1 f = some (hp_o 2 [.ref (X.2.2.2 4), .int (nI (lvOf (valN rb size 0 8))), .int (nI (valN rb size 9 8)), .long (lN td0), .int (nI tc0)]) := fz
                      have fr := hp_eq.put fr (by simp) fn
                      clear fz fn
                      refine lv_aload_n hx hb dX4_read_192 rfl (lv_at hl 3 rfl) ?_
                      refine lv_aload_n hx hb dX4_read_193 rfl (lv_at hl 4 rfl) ?_
                      refine lv_iconst (v := nI 5) hx hb dX4_read_194 (by decide) ?_
                      refine lv_iconst (v := nI 0) hx hb dX4_read_195 (by decide) ?_
                      refine hp_kvm (hp_runV (As := [.ref r, .int (nI 5), .int (nI 0)]) (rest := []) hx hb hml hown hS hH (c_X4_readTold l X (by1 := 5) (ov := 0) h01 hr1 hs1 (by omega) (by omega) f_f f_r f_b) M_X4_51 I_X4_readTold V_X4_readTold (ci := 2) rfl rfl f_f rfl hl.1 rfl (Nat.le_of_ble_eq_true rfl) dX4_read_196 ⟨Nat.le_of_ble_eq_true rfl, Nat.le_of_ble_eq_true rfl⟩ ⟨Nat.le_of_ble_eq_true rfl, Nat.le_of_ble_eq_true rfl⟩) hH (fun μ1 H locs hp hH => ?_)
                      obtain ⟨fz0, fe⟩ := hp
                      have f_r := (hp_e1 fe (hp_ne f_r f_f (by simp))).trans f_r
                      have f_b := (hp_e1 fe (hp_ne f_b f_f (by simp))).trans f_b
                      have f_f : μ1 f = some (hp_o 2 [.ref (X.2.2.2 4), .int (nI (lvOf (valN rb size 0 8))), .int (nI (valN rb size 9 8)), .long (lN (tdN rb size (5) (0))), .int (nI (8 * (5) + 0))]) := fz0
                      have fr := hp_eq.tr1 fe fr (by simp)
                      clear fe fz0
                      refine lv_goto (tgt := 213) hx hb dX4_read_199 (by decide) ?_
                      have hk : rdK rb size = 4 := by unfold rdK; rw [if_neg c_52, if_neg (fun q => q.elim (fun q => absurd q c_69) (fun q => absurd (c_77.symm.trans q) (by decide))), if_neg (by omega), if_neg (by omega), if_pos ⟨by omega, by omega, by omega⟩]
                      exact hp_rv hx hb hr hlocks hS hH (⟨rfl, ⟨tdN rb size (5) (0), 8 * (5) + 0, by rw [hk]; exact f_f, fun q => absurd (hk.symm.trans q) (by decide), fun _ => ⟨rfl, rfl⟩, fr⟩⟩) dX4_read_213
              · have c_150 : ¬ (crcN rb size (size / 9) = 0) := nz_n (by omega) c_150
                refine lv_aload_n hx hb dX4_read_153 rfl (lv_at hl 3 rfl) ?_
                refine hp_gets hx hb hS.k0 hH hown G_X4_9 hS dX4_read_154 ?_
                refine hp_put hx hb hown hS.2.1 hH (P_X4_15.use hS) f_f rfl rfl (Nat.le_of_ble_eq_true rfl) dX4_read_157 (fun H locs μ1 fz fn hH => ?_)
                have f_r := (fn _ (hp_ne f_r f_f (by simp))).trans f_r
                have f_b := (fn _ (hp_ne f_b f_f (by simp))).trans f_b
                have f_f : μ1 f = some (hp_o 2 [.ref (X.2.2.2 0), .int (nI (lvOf (valN rb size 0 8))), .int (nI (valN rb size 9 8)), .long (lN td0), .int (nI tc0)]) := fz
                have fr := hp_eq.put fr (by simp) fn
                clear fz fn
                refine lv_goto (tgt := 213) hx hb dX4_read_160 (by decide) ?_
                have hk : rdK rb size = 0 := by unfold rdK; first | rw [if_neg c_52, if_pos (Or.inl c_69)] | rw [if_neg c_52, if_pos (Or.inr c_77)] | rw [if_neg c_52, if_neg (fun q => q.elim (fun q => absurd q c_69) (fun q => absurd (c_77.symm.trans q) (by decide))), if_neg (by omega), if_pos (by omega)]
                exact hp_rv hx hb hr hlocks hS hH (⟨rfl, ⟨td0, tc0, by rw [hk]; exact f_f, fun q => absurd (hk.symm.trans q) (by decide), fun q => absurd (hk.symm.trans q) (by decide), fr⟩⟩) dX4_read_213
          · have c_100 : ¬ (6 < (size / 9)) := fun z => c_100 ((nI_ltI (by omega) (by omega)).mpr z)
            refine lv_iload_n hx hb dX4_read_103 rfl (lv_at hl 1 rfl) ?_
            refine lv_bipush (v := nI 7) hx hb dX4_read_104 (by decide) ?_
            refine lv_icmp_gt (tgt := 141) hx hb dX4_read_106 (by decide) (fun c_106 => ?_) (fun c_106 => ?_)
            · have c_106 : 7 < (size % 9) := (nI_ltI (by omega) (by omega)).mp c_106
              refine lv_iload_n hx hb dX4_read_141 rfl (lv_at hl 1 rfl) ?_
              refine lv_if_gt (tgt := 153) hx hb dX4_read_142 (by decide) (fun c_142 => ?_) (fun c_142 => ?_)
              · have c_142 : 0 < (size % 9) := nz_gt (by omega) c_142
                refine lv_aload_n hx hb dX4_read_153 rfl (lv_at hl 3 rfl) ?_
                refine hp_gets hx hb hS.k0 hH hown G_X4_9 hS dX4_read_154 ?_
                refine hp_put hx hb hown hS.2.1 hH (P_X4_15.use hS) f_f rfl rfl (Nat.le_of_ble_eq_true rfl) dX4_read_157 (fun H locs μ1 fz fn hH => ?_)
                have f_r := (fn _ (hp_ne f_r f_f (by simp))).trans f_r
                have f_b := (fn _ (hp_ne f_b f_f (by simp))).trans f_b
                have f_f : μ1 f = some (hp_o 2 [.ref (X.2.2.2 0), .int (nI (lvOf (valN rb size 0 8))), .int (nI (valN rb size 9 8)), .long (lN td0), .int (nI tc0)]) := fz
                have fr := hp_eq.put fr (by simp) fn
                clear fz fn
                refine lv_goto (tgt := 213) hx hb dX4_read_160 (by decide) ?_
                have hk : rdK rb size = 0 := by unfold rdK; first | rw [if_neg c_52, if_pos (Or.inl c_69)] | rw [if_neg c_52, if_pos (Or.inr c_77)] | rw [if_neg c_52, if_neg (fun q => q.elim (fun q => absurd q c_69) (fun q => absurd (c_77.symm.trans q) (by decide))), if_neg (by omega), if_pos (by omega)]
                exact hp_rv hx hb hr hlocks hS hH (⟨rfl, ⟨td0, tc0, by rw [hk]; exact f_f, fun q => absurd (hk.symm.trans q) (by decide), fun q => absurd (hk.symm.trans q) (by decide), fr⟩⟩) dX4_read_213
              · have c_142 : (size % 9) = 0 := nz_ngt (by omega) c_142
                refine lv_aload_n hx hb dX4_read_145 rfl (lv_at hl 4 rfl) ?_
                refine lv_iload_n hx hb dX4_read_146 rfl (lv_at hl 2 rfl) ?_
                refine hp_kip (hp_runV (As := [.int (nI (size / 9))]) (rest := []) hx hb hml hown hS hH (c_X8_checkOf l X (n := size / 9) h01 hr1 (by omega) hs1 f_r f_b) M_X4_55 I_X8_checkOf V_X8_checkOf (ci := 4) rfl rfl f_r rfl hl.1 rfl (Nat.le_of_ble_eq_true rfl) dX4_read_147 ⟨Nat.le_of_ble_eq_true rfl, Nat.le_of_ble_eq_true rfl⟩ ⟨Nat.le_of_ble_eq_true rfl, Nat.le_of_ble_eq_true rfl⟩) hH (fun H locs hH => ?_)
                have hcr := crcN_lt rb size (size / 9)
                refine lv_if_eq (tgt := 163) hx hb dX4_read_150 (by decide) (fun c_150 => ?_) (fun c_150 => ?_)
                · have c_150 : (crcN rb size (size / 9)) = 0 := nz_0 (by omega) c_150
                  refine lv_aload_n hx hb dX4_read_163 rfl (lv_at hl 3 rfl) ?_
                  refine hp_get hx hb hown hS.2.1 hH (F_X4_37.use hS) f_f rfl dX4_read_164 ?_
                  refine lv_if_le (tgt := 202) hx hb dX4_read_167 (by decide) (fun c_167 => ?_) (fun c_167 => ?_)
                  · have c_167 : (lvOf (valN rb size 0 8)) = 0 := nz_le (by omega) c_167
                    refine lv_aload_n hx hb dX4_read_202 rfl (lv_at hl 3 rfl) ?_
                    refine lv_aload_n hx hb dX4_read_203 rfl (lv_at hl 3 rfl) ?_
                    refine lv_iload hx hb dX4_read_204 (lv_at hl 0 rfl) ?_
                    refine lv_iload_n hx hb dX4_read_206 rfl (lv_at hl 2 rfl) ?_
                    refine hp_krp (hp_runV (As := [.int (nI (valN rb size 0 8)), .int (nI (size / 9))]) (rest := [.ref f]) hx hb hml hown hS hH (c_X4_kindOfCommand l X (fi := valN rb size 0 8) (oc := size / 9) (by omega) (by omega) (by omega) f_f) M_X4_61 I_X4_kindOfCommand V_X4_kindOfCommand (ci := 2) rfl rfl f_f rfl hl.1 rfl (Nat.le_of_ble_eq_true rfl) dX4_read_207 ⟨Nat.le_of_ble_eq_true rfl, Nat.le_of_ble_eq_true rfl⟩ ⟨Nat.le_of_ble_eq_true rfl, Nat.le_of_ble_eq_true rfl⟩) hH (fun H locs hH => ?_)
                    refine hp_put hx hb hown hS.2.1 hH (P_X4_15.use hS) f_f rfl rfl (Nat.le_of_ble_eq_true rfl) dX4_read_210 (fun H locs μ1 fz fn hH => ?_)
                    have f_r := (fn _ (hp_ne f_r f_f (by simp))).trans f_r
                    have f_b := (fn _ (hp_ne f_b f_f (by simp))).trans f_b
                    have f_f : μ1 f = some (hp_o 2 [.ref (X.2.2.2 (kdC (valN rb size 0 8) (size / 9) (valN rb size 9 8))), .int (nI (lvOf (valN rb size 0 8))), .int (nI (valN rb size 9 8)), .long (lN td0), .int (nI tc0)]) := fz
                    have fr := hp_eq.put fr (by simp) fn
                    clear fz fn
                    have hk : rdK rb size = (kdC (valN rb size 0 8) (size / 9) (valN rb size 9 8)) := by unfold rdK; rw [if_neg c_52, if_neg (fun q => q.elim (fun q => absurd q c_69) (fun q => absurd (c_77.symm.trans q) (by decide))), if_neg (by omega), if_neg (by omega), if_neg (by omega)]
                    exact hp_rv hx hb hr hlocks hS hH (⟨rfl, ⟨td0, tc0, by rw [hk]; exact f_f, fun q => absurd (hk.symm.trans q) (by first | (unfold kdS; split <;> (try split) <;> omega) | (unfold kdC; split <;> (try split) <;> (try split) <;> omega)), fun q => absurd (hk.symm.trans q) (by first | (unfold kdS; split <;> (try split) <;> omega) | (unfold kdC; split <;> (try split) <;> (try split) <;> omega)), fr⟩⟩) dX4_read_213
                  · have c_167 : 0 < (lvOf (valN rb size 0 8)) := nz_nle (by omega) c_167
                    refine lv_iload_n hx hb dX4_read_170 rfl (lv_at hl 2 rfl) ?_
                    refine lv_bipush (v := nI 9) hx hb dX4_read_171 (by decide) ?_
                    refine lv_icmp_ne (tgt := 202) hx hb dX4_read_173 (by decide) (fun c_173 => ?_) (fun c_173 => ?_)
                    · have c_173 : ¬ ((size / 9) = 9) := fun z => c_173 ((nI_eq (by omega) (by omega)).mpr z)
                      refine lv_aload_n hx hb dX4_read_202 rfl (lv_at hl 3 rfl) ?_
                      refine lv_aload_n hx hb dX4_read_203 rfl (lv_at hl 3 rfl) ?_
                      refine lv_iload hx hb dX4_read_204 (lv_at hl 0 rfl) ?_
                      refine lv_iload_n hx hb dX4_read_206 rfl (lv_at hl 2 rfl) ?_
                      refine hp_krp (hp_runV (As := [.int (nI (valN rb size 0 8)), .int (nI (size / 9))]) (rest := [.ref f]) hx hb hml hown hS hH (c_X4_kindOfCommand l X (fi := valN rb size 0 8) (oc := size / 9) (by omega) (by omega) (by omega) f_f) M_X4_61 I_X4_kindOfCommand V_X4_kindOfCommand (ci := 2) rfl rfl f_f rfl hl.1 rfl (Nat.le_of_ble_eq_true rfl) dX4_read_207 ⟨Nat.le_of_ble_eq_true rfl, Nat.le_of_ble_eq_true rfl⟩ ⟨Nat.le_of_ble_eq_true rfl, Nat.le_of_ble_eq_true rfl⟩) hH (fun H locs hH => ?_)
                      refine hp_put hx hb hown hS.2.1 hH (P_X4_15.use hS) f_f rfl rfl (Nat.le_of_ble_eq_true rfl) dX4_read_210 (fun H locs μ1 fz fn hH => ?_)
                      have f_r := (fn _ (hp_ne f_r f_f (by simp))).trans f_r
                      have f_b := (fn _ (hp_ne f_b f_f (by simp))).trans f_b
                      have f_f : μ1 f = some (hp_o 2 [.ref (X.2.2.2 (kdC (valN rb size 0 8) (size / 9) (valN rb size 9 8))), .int (nI (lvOf (valN rb size 0 8))), .int (nI (valN rb size 9 8)), .long (lN td0), .int (nI tc0)]) := fz
                      have fr := hp_eq.put fr (by simp) fn
                      clear fz fn
                      have hk : rdK rb size = (kdC (valN rb size 0 8) (size / 9) (valN rb size 9 8)) := by unfold rdK; rw [if_neg c_52, if_neg (fun q => q.elim (fun q => absurd q c_69) (fun q => absurd (c_77.symm.trans q) (by decide))), if_neg (by omega), if_neg (by omega), if_neg (by omega)]
                      exact hp_rv hx hb hr hlocks hS hH (⟨rfl, ⟨td0, tc0, by rw [hk]; exact f_f, fun q => absurd (hk.symm.trans q) (by first | (unfold kdS; split <;> (try split) <;> omega) | (unfold kdC; split <;> (try split) <;> (try split) <;> omega)), fun q => absurd (hk.symm.trans q) (by first | (unfold kdS; split <;> (try split) <;> omega) | (unfold kdC; split <;> (try split) <;> (try split) <;> omega)), fr⟩⟩) dX4_read_213
                    · have c_173 : (size / 9) = 9 := (nI_eq (by omega) (by omega)).mp c_173
                      refine lv_aload_n hx hb dX4_read_176 rfl (lv_at hl 3 rfl) ?_
                      refine hp_get hx hb hown hS.2.1 hH (F_X4_30.use hS) f_f rfl dX4_read_177 ?_
                      refine lv_bipush (v := nI 112) hx hb dX4_read_180 (by decide) ?_
                      refine lv_icmp_ne (tgt := 202) hx hb dX4_read_182 (by decide) (fun c_182 => ?_) (fun c_182 => ?_)
                      · have c_182 : ¬ ((valN rb size 9 8) = 112) := fun z => c_182 ((nI_eq (by omega) (by omega)).mpr z)
                        refine lv_aload_n hx hb dX4_read_202 rfl (lv_at hl 3 rfl) ?_
                        refine lv_aload_n hx hb dX4_read_203 rfl (lv_at hl 3 rfl) ?_
                        refine lv_iload hx hb dX4_read_204 (lv_at hl 0 rfl) ?_
                        refine lv_iload_n hx hb dX4_read_206 rfl (lv_at hl 2 rfl) ?_
                        refine hp_krp (hp_runV (As := [.int (nI (valN rb size 0 8)), .int (nI (size / 9))]) (rest := [.ref f]) hx hb hml hown hS hH (c_X4_kindOfCommand l X (fi := valN rb size 0 8) (oc := size / 9) (by omega) (by omega) (by omega) f_f) M_X4_61 I_X4_kindOfCommand V_X4_kindOfCommand (ci := 2) rfl rfl f_f rfl hl.1 rfl (Nat.le_of_ble_eq_true rfl) dX4_read_207 ⟨Nat.le_of_ble_eq_true rfl, Nat.le_of_ble_eq_true rfl⟩ ⟨Nat.le_of_ble_eq_true rfl, Nat.le_of_ble_eq_true rfl⟩) hH (fun H locs hH => ?_)
                        refine hp_put hx hb hown hS.2.1 hH (P_X4_15.use hS) f_f rfl rfl (Nat.le_of_ble_eq_true rfl) dX4_read_210 (fun H locs μ1 fz fn hH => ?_)
                        have f_r := (fn _ (hp_ne f_r f_f (by simp))).trans f_r
                        have f_b := (fn _ (hp_ne f_b f_f (by simp))).trans f_b
                        have f_f : μ1 f = some (hp_o 2 [.ref (X.2.2.2 (kdC (valN rb size 0 8) (size / 9) (valN rb size 9 8))), .int (nI (lvOf (valN rb size 0 8))), .int (nI (valN rb size 9 8)), .long (lN td0), .int (nI tc0)]) := fz
                        have fr := hp_eq.put fr (by simp) fn
                        clear fz fn
                        have hk : rdK rb size = (kdC (valN rb size 0 8) (size / 9) (valN rb size 9 8)) := by unfold rdK; rw [if_neg c_52, if_neg (fun q => q.elim (fun q => absurd q c_69) (fun q => absurd (c_77.symm.trans q) (by decide))), if_neg (by omega), if_neg (by omega), if_neg (by omega)]
                        exact hp_rv hx hb hr hlocks hS hH (⟨rfl, ⟨td0, tc0, by rw [hk]; exact f_f, fun q => absurd (hk.symm.trans q) (by first | (unfold kdS; split <;> (try split) <;> omega) | (unfold kdC; split <;> (try split) <;> (try split) <;> omega)), fun q => absurd (hk.symm.trans q) (by first | (unfold kdS; split <;> (try split) <;> omega) | (unfold kdC; split <;> (try split) <;> (try split) <;> omega)), fr⟩⟩) dX4_read_213
                      · have c_182 : (valN rb size 9 8) = 112 := (nI_eq (by omega) (by omega)).mp c_182
                        refine lv_aload_n hx hb dX4_read_185 rfl (lv_at hl 3 rfl) ?_
                        refine hp_gets hx hb hS.k4 hH hown G_X4_58 hS dX4_read_186 ?_
                        refine hp_put hx hb hown hS.2.1 hH (P_X4_15.use hS) f_f rfl rfl (Nat.le_of_ble_eq_true rfl) dX4_read_189 (fun H locs μ1 fz fn hH => ?_)
                        have f_r := (fn _ (hp_ne f_r f_f (by simp))).trans f_r
                        have f_b := (fn _ (hp_ne f_b f_f (by simp))).trans f_b
                        have f_f : μ1 f = some (hp_o 2 [.ref (X.2.2.2 4), .int (nI (lvOf (valN rb size 0 8))), .int (nI (valN rb size 9 8)), .long (lN td0), .int (nI tc0)]) := fz
                        have fr := hp_eq.put fr (by simp) fn
                        clear fz fn
                        refine lv_aload_n hx hb dX4_read_192 rfl (lv_at hl 3 rfl) ?_
                        refine lv_aload_n hx hb dX4_read_193 rfl (lv_at hl 4 rfl) ?_
                        refine lv_iconst (v := nI 5) hx hb dX4_read_194 (by decide) ?_
                        refine lv_iconst (v := nI 0) hx hb dX4_read_195 (by decide) ?_
                        refine hp_kvm (hp_runV (As := [.ref r, .int (nI 5), .int (nI 0)]) (rest := []) hx hb hml hown hS hH (c_X4_readTold l X (by1 := 5) (ov := 0) h01 hr1 hs1 (by omega) (by omega) f_f f_r f_b) M_X4_51 I_X4_readTold V_X4_readTold (ci := 2) rfl rfl f_f rfl hl.1 rfl (Nat.le_of_ble_eq_true rfl) dX4_read_196 ⟨Nat.le_of_ble_eq_true rfl, Nat.le_of_ble_eq_true rfl⟩ ⟨Nat.le_of_ble_eq_true rfl, Nat.le_of_ble_eq_true rfl⟩) hH (fun μ1 H locs hp hH => ?_)
                        obtain ⟨fz0, fe⟩ := hp
                        have f_r := (hp_e1 fe (hp_ne f_r f_f (by simp))).trans f_r
                        have f_b := (hp_e1 fe (hp_ne f_b f_f (by simp))).trans f_b
                        have f_f : μ1 f = some (hp_o 2 [.ref (X.2.2.2 4), .int (nI (lvOf (valN rb size 0 8))), .int (nI (valN rb size 9 8)), .long (lN (tdN rb size (5) (0))), .int (nI (8 * (5) + 0))]) := fz0
                        have fr := hp_eq.tr1 fe fr (by simp)
                        clear fe fz0
                        refine lv_goto (tgt := 213) hx hb dX4_read_199 (by decide) ?_
                        have hk : rdK rb size = 4 := by unfold rdK; rw [if_neg c_52, if_neg (fun q => q.elim (fun q => absurd q c_69) (fun q => absurd (c_77.symm.trans q) (by decide))), if_neg (by omega), if_neg (by omega), if_pos ⟨by omega, by omega, by omega⟩]
                        exact hp_rv hx hb hr hlocks hS hH (⟨rfl, ⟨tdN rb size (5) (0), 8 * (5) + 0, by rw [hk]; exact f_f, fun q => absurd (hk.symm.trans q) (by decide), fun _ => ⟨rfl, rfl⟩, fr⟩⟩) dX4_read_213
                · have c_150 : ¬ (crcN rb size (size / 9) = 0) := nz_n (by omega) c_150
                  refine lv_aload_n hx hb dX4_read_153 rfl (lv_at hl 3 rfl) ?_
                  refine hp_gets hx hb hS.k0 hH hown G_X4_9 hS dX4_read_154 ?_
                  refine hp_put hx hb hown hS.2.1 hH (P_X4_15.use hS) f_f rfl rfl (Nat.le_of_ble_eq_true rfl) dX4_read_157 (fun H locs μ1 fz fn hH => ?_)
                  have f_r := (fn _ (hp_ne f_r f_f (by simp))).trans f_r
                  have f_b := (fn _ (hp_ne f_b f_f (by simp))).trans f_b
                  have f_f : μ1 f = some (hp_o 2 [.ref (X.2.2.2 0), .int (nI (lvOf (valN rb size 0 8))), .int (nI (valN rb size 9 8)), .long (lN td0), .int (nI tc0)]) := fz
                  have fr := hp_eq.put fr (by simp) fn
                  clear fz fn
                  refine lv_goto (tgt := 213) hx hb dX4_read_160 (by decide) ?_
                  have hk : rdK rb size = 0 := by unfold rdK; first | rw [if_neg c_52, if_pos (Or.inl c_69)] | rw [if_neg c_52, if_pos (Or.inr c_77)] | rw [if_neg c_52, if_neg (fun q => q.elim (fun q => absurd q c_69) (fun q => absurd (c_77.symm.trans q) (by decide))), if_neg (by omega), if_pos (by omega)]
                  exact hp_rv hx hb hr hlocks hS hH (⟨rfl, ⟨td0, tc0, by rw [hk]; exact f_f, fun q => absurd (hk.symm.trans q) (by decide), fun q => absurd (hk.symm.trans q) (by decide), fr⟩⟩) dX4_read_213
            · have c_106 : ¬ (7 < (size % 9)) := fun z => c_106 ((nI_ltI (by omega) (by omega)).mpr z)
              refine lv_aload_n hx hb dX4_read_109 rfl (lv_at hl 3 rfl) ?_
              refine hp_get hx hb hown hS.2.1 hH (F_X4_30.use hS) f_f rfl dX4_read_110 ?_
              refine lv_bipush (v := nI 16) hx hb dX4_read_113 (by decide) ?_
              refine lv_iload_n hx hb dX4_read_115 rfl (lv_at hl 2 rfl) ?_
              refine lv_imul hx hb dX4_read_116 ?_
              refine hp_eqi (z := nI (16 * (size / 9))) (pk_mul _ _) ?_
              refine lv_iload_n hx hb dX4_read_117 rfl (lv_at hl 1 rfl) ?_
              refine lv_iadd hx hb dX4_read_118 ?_
              refine hp_eqi (z := nI ((16 * (size / 9)) + (size % 9))) (nI_add _ _) ?_
              refine lv_icmp_ne (tgt := 141) hx hb dX4_read_119 (by decide) (fun c_119 => ?_) (fun c_119 => ?_)
              · have c_119 : ¬ ((valN rb size 9 8) = ((16 * (size / 9)) + (size % 9))) := fun z => c_119 ((nI_eq (by omega) (by omega)).mpr z)
                refine lv_iload_n hx hb dX4_read_141 rfl (lv_at hl 1 rfl) ?_
                refine lv_if_gt (tgt := 153) hx hb dX4_read_142 (by decide) (fun c_142 => ?_) (fun c_142 => ?_)
                · have c_142 : 0 < (size % 9) := nz_gt (by omega) c_142
                  refine lv_aload_n hx hb dX4_read_153 rfl (lv_at hl 3 rfl) ?_
                  refine hp_gets hx hb hS.k0 hH hown G_X4_9 hS dX4_read_154 ?_
                  refine hp_put hx hb hown hS.2.1 hH (P_X4_15.use hS) f_f rfl rfl (Nat.le_of_ble_eq_true rfl) dX4_read_157 (fun H locs μ1 fz fn hH => ?_)
                  have f_r := (fn _ (hp_ne f_r f_f (by simp))).trans f_r
                  have f_b := (fn _ (hp_ne f_b f_f (by simp))).trans f_b
                  have f_f : μ1 f = some (hp_o 2 [.ref (X.2.2.2 0), .int (nI (lvOf (valN rb size 0 8))), .int (nI (valN rb size 9 8)), .long (lN td0), .int (nI tc0)]) := fz
                  have fr := hp_eq.put fr (by simp) fn
                  clear fz fn
                  refine lv_goto (tgt := 213) hx hb dX4_read_160 (by decide) ?_
                  have hk : rdK rb size = 0 := by unfold rdK; first | rw [if_neg c_52, if_pos (Or.inl c_69)] | rw [if_neg c_52, if_pos (Or.inr c_77)] | rw [if_neg c_52, if_neg (fun q => q.elim (fun q => absurd q c_69) (fun q => absurd (c_77.symm.trans q) (by decide))), if_neg (by omega), if_pos (by omega)]
                  exact hp_rv hx hb hr hlocks hS hH (⟨rfl, ⟨td0, tc0, by rw [hk]; exact f_f, fun q => absurd (hk.symm.trans q) (by decide), fun q => absurd (hk.symm.trans q) (by decide), fr⟩⟩) dX4_read_213
                · have c_142 : (size % 9) = 0 := nz_ngt (by omega) c_142
                  refine lv_aload_n hx hb dX4_read_145 rfl (lv_at hl 4 rfl) ?_
                  refine lv_iload_n hx hb dX4_read_146 rfl (lv_at hl 2 rfl) ?_
                  refine hp_kip (hp_runV (As := [.int (nI (size / 9))]) (rest := []) hx hb hml hown hS hH (c_X8_checkOf l X (n := size / 9) h01 hr1 (by omega) hs1 f_r f_b) M_X4_55 I_X8_checkOf V_X8_checkOf (ci := 4) rfl rfl f_r rfl hl.1 rfl (Nat.le_of_ble_eq_true rfl) dX4_read_147 ⟨Nat.le_of_ble_eq_true rfl, Nat.le_of_ble_eq_true rfl⟩ ⟨Nat.le_of_ble_eq_true rfl, Nat.le_of_ble_eq_true rfl⟩) hH (fun H locs hH => ?_)
                  have hcr := crcN_lt rb size (size / 9)
                  refine lv_if_eq (tgt := 163) hx hb dX4_read_150 (by decide) (fun c_150 => ?_) (fun c_150 => ?_)
                  · have c_150 : (crcN rb size (size / 9)) = 0 := nz_0 (by omega) c_150
                    refine lv_aload_n hx hb dX4_read_163 rfl (lv_at hl 3 rfl) ?_
                    refine hp_get hx hb hown hS.2.1 hH (F_X4_37.use hS) f_f rfl dX4_read_164 ?_
                    refine lv_if_le (tgt := 202) hx hb dX4_read_167 (by decide) (fun c_167 => ?_) (fun c_167 => ?_)
                    · have c_167 : (lvOf (valN rb size 0 8)) = 0 := nz_le (by omega) c_167
                      refine lv_aload_n hx hb dX4_read_202 rfl (lv_at hl 3 rfl) ?_
                      refine lv_aload_n hx hb dX4_read_203 rfl (lv_at hl 3 rfl) ?_
                      refine lv_iload hx hb dX4_read_204 (lv_at hl 0 rfl) ?_
                      refine lv_iload_n hx hb dX4_read_206 rfl (lv_at hl 2 rfl) ?_
                      refine hp_krp (hp_runV (As := [.int (nI (valN rb size 0 8)), .int (nI (size / 9))]) (rest := [.ref f]) hx hb hml hown hS hH (c_X4_kindOfCommand l X (fi := valN rb size 0 8) (oc := size / 9) (by omega) (by omega) (by omega) f_f) M_X4_61 I_X4_kindOfCommand V_X4_kindOfCommand (ci := 2) rfl rfl f_f rfl hl.1 rfl (Nat.le_of_ble_eq_true rfl) dX4_read_207 ⟨Nat.le_of_ble_eq_true rfl, Nat.le_of_ble_eq_true rfl⟩ ⟨Nat.le_of_ble_eq_true rfl, Nat.le_of_ble_eq_true rfl⟩) hH (fun H locs hH => ?_)
                      refine hp_put hx hb hown hS.2.1 hH (P_X4_15.use hS) f_f rfl rfl (Nat.le_of_ble_eq_true rfl) dX4_read_210 (fun H locs μ1 fz fn hH => ?_)
                      have f_r := (fn _ (hp_ne f_r f_f (by simp))).trans f_r
                      have f_b := (fn _ (hp_ne f_b f_f (by simp))).trans f_b
                      have f_f : μ1 f = some (hp_o 2 [.ref (X.2.2.2 (kdC (valN rb size 0 8) (size / 9) (valN rb size 9 8))), .int (nI (lvOf (valN rb size 0 8))), .int (nI (valN rb size 9 8)), .long (lN td0), .int (nI tc0)]) := fz
                      have fr := hp_eq.put fr (by simp) fn
                      clear fz fn
                      have hk : rdK rb size = (kdC (valN rb size 0 8) (size / 9) (valN rb size 9 8)) := by unfold rdK; rw [if_neg c_52, if_neg (fun q => q.elim (fun q => absurd q c_69) (fun q => absurd (c_77.symm.trans q) (by decide))), if_neg (by omega), if_neg (by omega), if_neg (by omega)]
                      exact hp_rv hx hb hr hlocks hS hH (⟨rfl, ⟨td0, tc0, by rw [hk]; exact f_f, fun q => absurd (hk.symm.trans q) (by first | (unfold kdS; split <;> (try split) <;> omega) | (unfold kdC; split <;> (try split) <;> (try split) <;> omega)), fun q => absurd (hk.symm.trans q) (by first | (unfold kdS; split <;> (try split) <;> omega) | (unfold kdC; split <;> (try split) <;> (try split) <;> omega)), fr⟩⟩) dX4_read_213
                    · have c_167 : 0 < (lvOf (valN rb size 0 8)) := nz_nle (by omega) c_167
                      refine lv_iload_n hx hb dX4_read_170 rfl (lv_at hl 2 rfl) ?_
                      refine lv_bipush (v := nI 9) hx hb dX4_read_171 (by decide) ?_
                      refine lv_icmp_ne (tgt := 202) hx hb dX4_read_173 (by decide) (fun c_173 => ?_) (fun c_173 => ?_)
                      · have c_173 : ¬ ((size / 9) = 9) := fun z => c_173 ((nI_eq (by omega) (by omega)).mpr z)
                        refine lv_aload_n hx hb dX4_read_202 rfl (lv_at hl 3 rfl) ?_
                        refine lv_aload_n hx hb dX4_read_203 rfl (lv_at hl 3 rfl) ?_
                        refine lv_iload hx hb dX4_read_204 (lv_at hl 0 rfl) ?_
                        refine lv_iload_n hx hb dX4_read_206 rfl (lv_at hl 2 rfl) ?_
                        refine hp_krp (hp_runV (As := [.int (nI (valN rb size 0 8)), .int (nI (size / 9))]) (rest := [.ref f]) hx hb hml hown hS hH (c_X4_kindOfCommand l X (fi := valN rb size 0 8) (oc := size / 9) (by omega) (by omega) (by omega) f_f) M_X4_61 I_X4_kindOfCommand V_X4_kindOfCommand (ci := 2) rfl rfl f_f rfl hl.1 rfl (Nat.le_of_ble_eq_true rfl) dX4_read_207 ⟨Nat.le_of_ble_eq_true rfl, Nat.le_of_ble_eq_true rfl⟩ ⟨Nat.le_of_ble_eq_true rfl, Nat.le_of_ble_eq_true rfl⟩) hH (fun H locs hH => ?_)
                        refine hp_put hx hb hown hS.2.1 hH (P_X4_15.use hS) f_f rfl rfl (Nat.le_of_ble_eq_true rfl) dX4_read_210 (fun H locs μ1 fz fn hH => ?_)
                        have f_r := (fn _ (hp_ne f_r f_f (by simp))).trans f_r
                        have f_b := (fn _ (hp_ne f_b f_f (by simp))).trans f_b
                        have f_f : μ1 f = some (hp_o 2 [.ref (X.2.2.2 (kdC (valN rb size 0 8) (size / 9) (valN rb size 9 8))), .int (nI (lvOf (valN rb size 0 8))), .int (nI (valN rb size 9 8)), .long (lN td0), .int (nI tc0)]) := fz
                        have fr := hp_eq.put fr (by simp) fn
                        clear fz fn
                        have hk : rdK rb size = (kdC (valN rb size 0 8) (size / 9) (valN rb size 9 8)) := by unfold rdK; rw [if_neg c_52, if_neg (fun q => q.elim (fun q => absurd q c_69) (fun q => absurd (c_77.symm.trans q) (by decide))), if_neg (by omega), if_neg (by omega), if_neg (by omega)]
                        exact hp_rv hx hb hr hlocks hS hH (⟨rfl, ⟨td0, tc0, by rw [hk]; exact f_f, fun q => absurd (hk.symm.trans q) (by first | (unfold kdS; split <;> (try split) <;> omega) | (unfold kdC; split <;> (try split) <;> (try split) <;> omega)), fun q => absurd (hk.symm.trans q) (by first | (unfold kdS; split <;> (try split) <;> omega) | (unfold kdC; split <;> (try split) <;> (try split) <;> omega)), fr⟩⟩) dX4_read_213
                      · have c_173 : (size / 9) = 9 := (nI_eq (by omega) (by omega)).mp c_173
                        refine lv_aload_n hx hb dX4_read_176 rfl (lv_at hl 3 rfl) ?_
                        refine hp_get hx hb hown hS.2.1 hH (F_X4_30.use hS) f_f rfl dX4_read_177 ?_
                        refine lv_bipush (v := nI 112) hx hb dX4_read_180 (by decide) ?_
                        refine lv_icmp_ne (tgt := 202) hx hb dX4_read_182 (by decide) (fun c_182 => ?_) (fun c_182 => ?_)
                        · have c_182 : ¬ ((valN rb size 9 8) = 112) := fun z => c_182 ((nI_eq (by omega) (by omega)).mpr z)
                          refine lv_aload_n hx hb dX4_read_202 rfl (lv_at hl 3 rfl) ?_
                          refine lv_aload_n hx hb dX4_read_203 rfl (lv_at hl 3 rfl) ?_
                          refine lv_iload hx hb dX4_read_204 (lv_at hl 0 rfl) ?_
                          refine lv_iload_n hx hb dX4_read_206 rfl (lv_at hl 2 rfl) ?_
                          refine hp_krp (hp_runV (As := [.int (nI (valN rb size 0 8)), .int (nI (size / 9))]) (rest := [.ref f]) hx hb hml hown hS hH (c_X4_kindOfCommand l X (fi := valN rb size 0 8) (oc := size / 9) (by omega) (by omega) (by omega) f_f) M_X4_61 I_X4_kindOfCommand V_X4_kindOfCommand (ci := 2) rfl rfl f_f rfl hl.1 rfl (Nat.le_of_ble_eq_true rfl) dX4_read_207 ⟨Nat.le_of_ble_eq_true rfl, Nat.le_of_ble_eq_true rfl⟩ ⟨Nat.le_of_ble_eq_true rfl, Nat.le_of_ble_eq_true rfl⟩) hH (fun H locs hH => ?_)
                          refine hp_put hx hb hown hS.2.1 hH (P_X4_15.use hS) f_f rfl rfl (Nat.le_of_ble_eq_true rfl) dX4_read_210 (fun H locs μ1 fz fn hH => ?_)
                          have f_r := (fn _ (hp_ne f_r f_f (by simp))).trans f_r
                          have f_b := (fn _ (hp_ne f_b f_f (by simp))).trans f_b
                          have f_f : μ1 f = some (hp_o 2 [.ref (X.2.2.2 (kdC (valN rb size 0 8) (size / 9) (valN rb size 9 8))), .int (nI (lvOf (valN rb size 0 8))), .int (nI (valN rb size 9 8)), .long (lN td0), .int (nI tc0)]) := fz
                          have fr := hp_eq.put fr (by simp) fn
                          clear fz fn
                          have hk : rdK rb size = (kdC (valN rb size 0 8) (size / 9) (valN rb size 9 8)) := by unfold rdK; rw [if_neg c_52, if_neg (fun q => q.elim (fun q => absurd q c_69) (fun q => absurd (c_77.symm.trans q) (by decide))), if_neg (by omega), if_neg (by omega), if_neg (by omega)]
                          exact hp_rv hx hb hr hlocks hS hH (⟨rfl, ⟨td0, tc0, by rw [hk]; exact f_f, fun q => absurd (hk.symm.trans q) (by first | (unfold kdS; split <;> (try split) <;> omega) | (unfold kdC; split <;> (try split) <;> (try split) <;> omega)), fun q => absurd (hk.symm.trans q) (by first | (unfold kdS; split <;> (try split) <;> omega) | (unfold kdC; split <;> (try split) <;> (try split) <;> omega)), fr⟩⟩) dX4_read_213
                        · have c_182 : (valN rb size 9 8) = 112 := (nI_eq (by omega) (by omega)).mp c_182
                          refine lv_aload_n hx hb dX4_read_185 rfl (lv_at hl 3 rfl) ?_
                          refine hp_gets hx hb hS.k4 hH hown G_X4_58 hS dX4_read_186 ?_
                          refine hp_put hx hb hown hS.2.1 hH (P_X4_15.use hS) f_f rfl rfl (Nat.le_of_ble_eq_true rfl) dX4_read_189 (fun H locs μ1 fz fn hH => ?_)
                          have f_r := (fn _ (hp_ne f_r f_f (by simp))).trans f_r
                          have f_b := (fn _ (hp_ne f_b f_f (by simp))).trans f_b
                          have f_f : μ1 f = some (hp_o 2 [.ref (X.2.2.2 4), .int (nI (lvOf (valN rb size 0 8))), .int (nI (valN rb size 9 8)), .long (lN td0), .int (nI tc0)]) := fz
                          have fr := hp_eq.put fr (by simp) fn
                          clear fz fn
                          refine lv_aload_n hx hb dX4_read_192 rfl (lv_at hl 3 rfl) ?_
                          refine lv_aload_n hx hb dX4_read_193 rfl (lv_at hl 4 rfl) ?_
                          refine lv_iconst (v := nI 5) hx hb dX4_read_194 (by decide) ?_
                          refine lv_iconst (v := nI 0) hx hb dX4_read_195 (by decide) ?_
                          refine hp_kvm (hp_runV (As := [.ref r, .int (nI 5), .int (nI 0)]) (rest := []) hx hb hml hown hS hH (c_X4_readTold l X (by1 := 5) (ov := 0) h01 hr1 hs1 (by omega) (by omega) f_f f_r f_b) M_X4_51 I_X4_readTold V_X4_readTold (ci := 2) rfl rfl f_f rfl hl.1 rfl (Nat.le_of_ble_eq_true rfl) dX4_read_196 ⟨Nat.le_of_ble_eq_true rfl, Nat.le_of_ble_eq_true rfl⟩ ⟨Nat.le_of_ble_eq_true rfl, Nat.le_of_ble_eq_true rfl⟩) hH (fun μ1 H locs hp hH => ?_)
                          obtain ⟨fz0, fe⟩ := hp
                          have f_r := (hp_e1 fe (hp_ne f_r f_f (by simp))).trans f_r
                          have f_b := (hp_e1 fe (hp_ne f_b f_f (by simp))).trans f_b
                          have f_f : μ1 f = some (hp_o 2 [.ref (X.2.2.2 4), .int (nI (lvOf (valN rb size 0 8))), .int (nI (valN rb size 9 8)), .long (lN (tdN rb size (5) (0))), .int (nI (8 * (5) + 0))]) := fz0
                          have fr := hp_eq.tr1 fe fr (by simp)
                          clear fe fz0
                          refine lv_goto (tgt := 213) hx hb dX4_read_199 (by decide) ?_
                          have hk : rdK rb size = 4 := by unfold rdK; rw [if_neg c_52, if_neg (fun q => q.elim (fun q => absurd q c_69) (fun q => absurd (c_77.symm.trans q) (by decide))), if_neg (by omega), if_neg (by omega), if_pos ⟨by omega, by omega, by omega⟩]
                          exact hp_rv hx hb hr hlocks hS hH (⟨rfl, ⟨tdN rb size (5) (0), 8 * (5) + 0, by rw [hk]; exact f_f, fun q => absurd (hk.symm.trans q) (by decide), fun _ => ⟨rfl, rfl⟩, fr⟩⟩) dX4_read_213
                  · have c_150 : ¬ (crcN rb size (size / 9) = 0) := nz_n (by omega) c_150
                    refine lv_aload_n hx hb dX4_read_153 rfl (lv_at hl 3 rfl) ?_
                    refine hp_gets hx hb hS.k0 hH hown G_X4_9 hS dX4_read_154 ?_
                    refine hp_put hx hb hown hS.2.1 hH (P_X4_15.use hS) f_f rfl rfl (Nat.le_of_ble_eq_true rfl) dX4_read_157 (fun H locs μ1 fz fn hH => ?_)
                    have f_r := (fn _ (hp_ne f_r f_f (by simp))).trans f_r
                    have f_b := (fn _ (hp_ne f_b f_f (by simp))).trans f_b
                    have f_f : μ1 f = some (hp_o 2 [.ref (X.2.2.2 0), .int (nI (lvOf (valN rb size 0 8))), .int (nI (valN rb size 9 8)), .long (lN td0), .int (nI tc0)]) := fz
                    have fr := hp_eq.put fr (by simp) fn
                    clear fz fn
                    refine lv_goto (tgt := 213) hx hb dX4_read_160 (by decide) ?_
                    have hk : rdK rb size = 0 := by unfold rdK; first | rw [if_neg c_52, if_pos (Or.inl c_69)] | rw [if_neg c_52, if_pos (Or.inr c_77)] | rw [if_neg c_52, if_neg (fun q => q.elim (fun q => absurd q c_69) (fun q => absurd (c_77.symm.trans q) (by decide))), if_neg (by omega), if_pos (by omega)]
                    exact hp_rv hx hb hr hlocks hS hH (⟨rfl, ⟨td0, tc0, by rw [hk]; exact f_f, fun q => absurd (hk.symm.trans q) (by decide), fun q => absurd (hk.symm.trans q) (by decide), fr⟩⟩) dX4_read_213
              · have c_119 : (valN rb size 9 8) = ((16 * (size / 9)) + (size % 9)) := (nI_eq (by omega) (by omega)).mp c_119
                refine lv_aload_n hx hb dX4_read_122 rfl (lv_at hl 3 rfl) ?_
                refine hp_gets hx hb hS.k3 hH hown G_X4_48 hS dX4_read_123 ?_
                refine hp_put hx hb hown hS.2.1 hH (P_X4_15.use hS) f_f rfl rfl (Nat.le_of_ble_eq_true rfl) dX4_read_126 (fun H locs μ1 fz fn hH => ?_)
                have f_r := (fn _ (hp_ne f_r f_f (by simp))).trans f_r
                have f_b := (fn _ (hp_ne f_b f_f (by simp))).trans f_b
                have f_f : μ1 f = some (hp_o 2 [.ref (X.2.2.2 3), .int (nI (lvOf (valN rb size 0 8))), .int (nI (valN rb size 9 8)), .long (lN td0), .int (nI tc0)]) := fz
                have fr := hp_eq.put fr (by simp) fn
                clear fz fn
                refine lv_aload_n hx hb dX4_read_129 rfl (lv_at hl 3 rfl) ?_
                refine lv_aload_n hx hb dX4_read_130 rfl (lv_at hl 4 rfl) ?_
                refine lv_iload_n hx hb dX4_read_131 rfl (lv_at hl 2 rfl) ?_
                refine lv_iconst (v := nI 2) hx hb dX4_read_132 (by decide) ?_
                refine lv_isub hx hb dX4_read_133 ?_
                refine hp_eqi (z := nI ((size / 9) - 2)) (pk_sub (by omega)) ?_
                refine lv_iload_n hx hb dX4_read_134 rfl (lv_at hl 1 rfl) ?_
                refine hp_kvm (hp_runV (As := [.ref r, .int (nI ((size / 9) - 2)), .int (nI (size % 9))]) (rest := []) hx hb hml hown hS hH (c_X4_readTold l X (by1 := size / 9 - 2) (ov := size % 9) h01 hr1 hs1 (by omega) (by omega) f_f f_r f_b) M_X4_51 I_X4_readTold V_X4_readTold (ci := 2) rfl rfl f_f rfl hl.1 rfl (Nat.le_of_ble_eq_true rfl) dX4_read_135 ⟨Nat.le_of_ble_eq_true rfl, Nat.le_of_ble_eq_true rfl⟩ ⟨Nat.le_of_ble_eq_true rfl, Nat.le_of_ble_eq_true rfl⟩) hH (fun μ1 H locs hp hH => ?_)
                obtain ⟨fz0, fe⟩ := hp
                have f_r := (hp_e1 fe (hp_ne f_r f_f (by simp))).trans f_r
                have f_b := (hp_e1 fe (hp_ne f_b f_f (by simp))).trans f_b
                have f_f : μ1 f = some (hp_o 2 [.ref (X.2.2.2 3), .int (nI (lvOf (valN rb size 0 8))), .int (nI (valN rb size 9 8)), .long (lN (tdN rb size (size / 9 - 2) (size % 9))), .int (nI (8 * (size / 9 - 2) + (size % 9)))]) := fz0
                have fr := hp_eq.tr1 fe fr (by simp)
                clear fe fz0
                refine lv_goto (tgt := 213) hx hb dX4_read_138 (by decide) ?_
                have hk : rdK rb size = 3 := by unfold rdK; rw [if_neg c_52, if_neg (fun q => q.elim (fun q => absurd q c_69) (fun q => absurd (c_77.symm.trans q) (by decide))), if_pos ⟨by omega, by omega, by omega, by omega⟩]
                exact hp_rv hx hb hr hlocks hS hH (⟨rfl, ⟨tdN rb size (size / 9 - 2) (size % 9), 8 * (size / 9 - 2) + (size % 9), by rw [hk]; exact f_f, fun _ => ⟨rfl, rfl⟩, fun q => absurd (hk.symm.trans q) (by decide), fr⟩⟩) dX4_read_213
      · have c_77 : (begN rb size (size / 9)) = false := nB_0 c_77
        refine lv_aload_n hx hb dX4_read_80 rfl (lv_at hl 3 rfl) ?_
        refine hp_gets hx hb hS.k0 hH hown G_X4_9 hS dX4_read_81 ?_
        refine hp_put hx hb hown hS.2.1 hH (P_X4_15.use hS) f_f rfl rfl (Nat.le_of_ble_eq_true rfl) dX4_read_84 (fun H locs μ1 fz fn hH => ?_)
        have f_r := (fn _ (hp_ne f_r f_f (by simp))).trans f_r
        have f_b := (fn _ (hp_ne f_b f_f (by simp))).trans f_b
        have f_f : μ1 f = some (hp_o 2 [.ref (X.2.2.2 0), .int (nI (lvOf (valN rb size 0 8))), .int (nI (valN rb size 9 8)), .long (lN td0), .int (nI tc0)]) := fz
        have fr := hp_eq.put fr (by simp) fn
        clear fz fn
        refine lv_goto (tgt := 213) hx hb dX4_read_87 (by decide) ?_
        have hk : rdK rb size = 0 := by unfold rdK; first | rw [if_neg c_52, if_pos (Or.inl c_69)] | rw [if_neg c_52, if_pos (Or.inr c_77)] | rw [if_neg c_52, if_neg (fun q => q.elim (fun q => absurd q c_69) (fun q => absurd (c_77.symm.trans q) (by decide))), if_neg (by omega), if_pos (by omega)]
        exact hp_rv hx hb hr hlocks hS hH (⟨rfl, ⟨td0, tc0, by rw [hk]; exact f_f, fun q => absurd (hk.symm.trans q) (by decide), fun q => absurd (hk.symm.trans q) (by decide), fr⟩⟩) dX4_read_213
  · have c_52 : size = 7 := (nI_eq (by omega) (by omega)).mp c_52
    refine lv_aload_n hx hb dX4_read_55 rfl (lv_at hl 3 rfl) ?_
    refine lv_iload hx hb dX4_read_56 (lv_at hl 0 rfl) ?_
    refine hp_krp (hp_runS (As := [.int (nI (valN rb size 0 8))]) (rest := [.ref f]) hx hb hml hown hS hH (c_X4_kindOfShort l X (v := valN rb size 0 8) (by omega)) M_X4_40 S_X4_kindOfShort rfl hl.1 rfl (Nat.le_of_ble_eq_true rfl) dX4_read_58 ⟨Nat.le_of_ble_eq_true rfl, Nat.le_of_ble_eq_true rfl⟩ ⟨Nat.le_of_ble_eq_true rfl, Nat.le_of_ble_eq_true rfl⟩) hH (fun H locs hH => ?_)
    refine hp_put hx hb hown hS.2.1 hH (P_X4_15.use hS) f_f rfl rfl (Nat.le_of_ble_eq_true rfl) dX4_read_61 (fun H locs μ1 fz fn hH => ?_)
    have f_r := (fn _ (hp_ne f_r f_f (by simp))).trans f_r
    have f_b := (fn _ (hp_ne f_b f_f (by simp))).trans f_b
    have f_f : μ1 f = some (hp_o 2 [.ref (X.2.2.2 (kdS (valN rb size 0 8))), .int (nI (lvOf (valN rb size 0 8))), .int (nI (valN rb size 9 8)), .long (lN td0), .int (nI tc0)]) := fz
    have fr := hp_eq.put fr (by simp) fn
    clear fz fn
    refine lv_goto (tgt := 213) hx hb dX4_read_64 (by decide) ?_
    have hk : rdK rb size = (kdS (valN rb size 0 8)) := by unfold rdK; rw [if_pos c_52]
    exact hp_rv hx hb hr hlocks hS hH (⟨rfl, ⟨td0, tc0, by rw [hk]; exact f_f, fun q => absurd (hk.symm.trans q) (by first | (unfold kdS; split <;> (try split) <;> omega) | (unfold kdC; split <;> (try split) <;> (try split) <;> omega)), fun q => absurd (hk.symm.trans q) (by first | (unfold kdS; split <;> (try split) <;> omega) | (unfold kdC; split <;> (try split) <;> (try split) <;> omega)), fr⟩⟩) dX4_read_213
end
