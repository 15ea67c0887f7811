section
-- ===== PART A: goes FIRST, ahead of the names: the tables' words, and 'selects' of the private methods out of them =====
/-- a private method of a class that the tables say can be made, by its rows of tables_1 -/
def lw_okq (q : MethodName × Nat) : Prop := (q.1.cls ≠ "java/lang/invoke/MethodHandle" ∧ q.1.cls ≠ "java/lang/invoke/VarHandle") ∧ Cond.instantiable q.1.cls q.2 ∈ tables_1 ∧ Cond.privateMethod q.1 ∈ tables_1 ∧ Cond.instanceMethod q.1 ∈ tables_1
theorem lw_p0 : lw_okq (⟨"java/util/ArrayList", "add", "(Ljava/lang/Object;[Ljava/lang/Object;I)V"⟩, 3) := ⟨⟨by decide +kernel, by decide +kernel⟩, List.mem_of_getElem? (i := 73) (by decide +kernel), List.mem_of_getElem? (i := 270) (by decide +kernel), List.mem_of_getElem? (i := 271) (by decide +kernel)⟩
theorem lw_p1 : lw_okq (⟨"java/util/ArrayList", "grow", "()[Ljava/lang/Object;"⟩, 3) := ⟨⟨by decide +kernel, by decide +kernel⟩, List.mem_of_getElem? (i := 73) (by decide +kernel), List.mem_of_getElem? (i := 274) (by decide +kernel), List.mem_of_getElem? (i := 275) (by decide +kernel)⟩
theorem lw_p2 : lw_okq (⟨"java/util/ArrayList", "grow", "(I)[Ljava/lang/Object;"⟩, 3) := ⟨⟨by decide +kernel, by decide +kernel⟩, List.mem_of_getElem? (i := 73) (by decide +kernel), List.mem_of_getElem? (i := 278) (by decide +kernel), List.mem_of_getElem? (i := 279) (by decide +kernel)⟩
theorem lw_p3 : lw_okq (⟨"TagField$Frame", "readTold", "(LTagField$Row;II)V"⟩, 5) := ⟨⟨by decide +kernel, by decide +kernel⟩, List.mem_of_getElem? (i := 99) (by decide +kernel), List.mem_of_getElem? (i := 444) (by decide +kernel), List.mem_of_getElem? (i := 445) (by decide +kernel)⟩
theorem lw_p4 : lw_okq (⟨"TagField$Frame", "kindOfCommand", "(II)LTagField$Kind;"⟩, 5) := ⟨⟨by decide +kernel, by decide +kernel⟩, List.mem_of_getElem? (i := 99) (by decide +kernel), List.mem_of_getElem? (i := 451) (by decide +kernel), List.mem_of_getElem? (i := 452) (by decide +kernel)⟩
theorem lw_p5 : lw_okq (⟨"TagField$Tag", "becomeReady", "(I)LTagField$Reply;"⟩, 5) := ⟨⟨by decide +kernel, by decide +kernel⟩, List.mem_of_getElem? (i := 192) (by decide +kernel), List.mem_of_getElem? (i := 467) (by decide +kernel), List.mem_of_getElem? (i := 468) (by decide +kernel)⟩
theorem lw_p6 : lw_okq (⟨"TagField$Tag", "become", "(ILTagField$Reply;)LTagField$Reply;"⟩, 5) := ⟨⟨by decide +kernel, by decide +kernel⟩, List.mem_of_getElem? (i := 192) (by decide +kernel), List.mem_of_getElem? (i := 473) (by decide +kernel), List.mem_of_getElem? (i := 474) (by decide +kernel)⟩
theorem lw_p7 : lw_okq (⟨"TagField$Tag", "hearReady", "(LTagField$Frame;)LTagField$Reply;"⟩, 5) := ⟨⟨by decide +kernel, by decide +kernel⟩, List.mem_of_getElem? (i := 192) (by decide +kernel), List.mem_of_getElem? (i := 479) (by decide +kernel), List.mem_of_getElem? (i := 480) (by decide +kernel)⟩
theorem lw_p8 : lw_okq (⟨"TagField$Tag", "showsWhatIsTold", "(LTagField$Frame;)Z"⟩, 5) := ⟨⟨by decide +kernel, by decide +kernel⟩, List.mem_of_getElem? (i := 192) (by decide +kernel), List.mem_of_getElem? (i := 484) (by decide +kernel), List.mem_of_getElem? (i := 485) (by decide +kernel)⟩
theorem lw_p9 : lw_okq (⟨"TagField$Tag", "becomeChosen", "()LTagField$Reply;"⟩, 5) := ⟨⟨by decide +kernel, by decide +kernel⟩, List.mem_of_getElem? (i := 192) (by decide +kernel), List.mem_of_getElem? (i := 491) (by decide +kernel), List.mem_of_getElem? (i := 492) (by decide +kernel)⟩
theorem lw_p10 : lw_okq (⟨"TagField$Tag", "goBack", "()LTagField$Reply;"⟩, 5) := ⟨⟨by decide +kernel, by decide +kernel⟩, List.mem_of_getElem? (i := 192) (by decide +kernel), List.mem_of_getElem? (i := 499) (by decide +kernel), List.mem_of_getElem? (i := 500) (by decide +kernel)⟩
theorem lw_p11 : lw_okq (⟨"TagField$Tag", "hearActive", "(LTagField$Frame;)LTagField$Reply;"⟩, 5) := ⟨⟨by decide +kernel, by decide +kernel⟩, List.mem_of_getElem? (i := 192) (by decide +kernel), List.mem_of_getElem? (i := 503) (by decide +kernel), List.mem_of_getElem? (i := 504) (by decide +kernel)⟩
theorem lw_p12 : lw_okq (⟨"TagField$Reader", "searchLevel", "(ILTagField$Air;)Z"⟩, 7) := ⟨⟨by decide +kernel, by decide +kernel⟩, List.mem_of_getElem? (i := 142) (by decide +kernel), List.mem_of_getElem? (i := 580) (by decide +kernel), List.mem_of_getElem? (i := 581) (by decide +kernel)⟩
theorem lw_p13 : lw_okq (⟨"TagField$Reader", "layOutSearch", "(I)V"⟩, 7) := ⟨⟨by decide +kernel, by decide +kernel⟩, List.mem_of_getElem? (i := 142) (by decide +kernel), List.mem_of_getElem? (i := 584) (by decide +kernel), List.mem_of_getElem? (i := 585) (by decide +kernel)⟩
theorem lw_p14 : lw_okq (⟨"TagField$Reader", "knownByte", "(I)I"⟩, 7) := ⟨⟨by decide +kernel, by decide +kernel⟩, List.mem_of_getElem? (i := 142) (by decide +kernel), List.mem_of_getElem? (i := 590) (by decide +kernel), List.mem_of_getElem? (i := 591) (by decide +kernel)⟩
theorem lw_p15 : lw_okq (⟨"TagField$Reader", "learn", "()V"⟩, 7) := ⟨⟨by decide +kernel, by decide +kernel⟩, List.mem_of_getElem? (i := 142) (by decide +kernel), List.mem_of_getElem? (i := 594) (by decide +kernel), List.mem_of_getElem? (i := 595) (by decide +kernel)⟩
def lw_privs_1 : List (MethodName × Nat) := [(⟨"java/util/ArrayList", "add", "(Ljava/lang/Object;[Ljava/lang/Object;I)V"⟩, 3), (⟨"java/util/ArrayList", "grow", "()[Ljava/lang/Object;"⟩, 3), (⟨"java/util/ArrayList", "grow", "(I)[Ljava/lang/Object;"⟩, 3), (⟨"TagField$Frame", "readTold", "(LTagField$Row;II)V"⟩, 5), (⟨"TagField$Frame", "kindOfCommand", "(II)LTagField$Kind;"⟩, 5), (⟨"TagField$Tag", "becomeReady", "(I)LTagField$Reply;"⟩, 5), (⟨"TagField$Tag", "become", "(ILTagField$Reply;)LTagField$Reply;"⟩, 5), (⟨"TagField$Tag", "hearReady", "(LTagField$Frame;)LTagField$Reply;"⟩, 5), (⟨"TagField$Tag", "showsWhatIsTold", "(LTagField$Frame;)Z"⟩, 5), (⟨"TagField$Tag", "becomeChosen", "()LTagField$Reply;"⟩, 5), (⟨"TagField$Tag", "goBack", "()LTagField$Reply;"⟩, 5), (⟨"TagField$Tag", "hearActive", "(LTagField$Frame;)LTagField$Reply;"⟩, 5), (⟨"TagField$Reader", "searchLevel", "(ILTagField$Air;)Z"⟩, 7), (⟨"TagField$Reader", "layOutSearch", "(I)V"⟩, 7), (⟨"TagField$Reader", "knownByte", "(I)I"⟩, 7), (⟨"TagField$Reader", "learn", "()V"⟩, 7)]
theorem lw_r1 : ∀ q ∈ lw_privs_1, lw_okq q := List.forall_mem_cons.mpr ⟨lw_p0, List.forall_mem_cons.mpr ⟨lw_p1, List.forall_mem_cons.mpr ⟨lw_p2, List.forall_mem_cons.mpr ⟨lw_p3, List.forall_mem_cons.mpr ⟨lw_p4, List.forall_mem_cons.mpr ⟨lw_p5, List.forall_mem_cons.mpr ⟨lw_p6, List.forall_mem_cons.mpr ⟨lw_p7, List.forall_mem_cons.mpr ⟨lw_p8, List.forall_mem_cons.mpr ⟨lw_p9, List.forall_mem_cons.mpr ⟨lw_p10, List.forall_mem_cons.mpr ⟨lw_p11, List.forall_mem_cons.mpr ⟨lw_p12, List.forall_mem_cons.mpr ⟨lw_p13, List.forall_mem_cons.mpr ⟨lw_p14, List.forall_mem_cons.mpr ⟨lw_p15, fun _ h => absurd h List.not_mem_nil⟩⟩⟩⟩⟩⟩⟩⟩⟩⟩⟩⟩⟩⟩⟩⟩
theorem lw_p16 : lw_okq (⟨"TagField$Reader", "choose", "(ILTagField$Air;)Z"⟩, 7) := ⟨⟨by decide +kernel, by decide +kernel⟩, List.mem_of_getElem? (i := 142) (by decide +kernel), List.mem_of_getElem? (i := 599) (by decide +kernel), List.mem_of_getElem? (i := 600) (by decide +kernel)⟩
theorem lw_p17 : lw_okq (⟨"TagField$Reader", "keepBytes", "(I)V"⟩, 7) := ⟨⟨by decide +kernel, by decide +kernel⟩, List.mem_of_getElem? (i := 142) (by decide +kernel), List.mem_of_getElem? (i := 609) (by decide +kernel), List.mem_of_getElem? (i := 610) (by decide +kernel)⟩
theorem lw_p18 : lw_okq (⟨"TagField$Reader", "halt", "(LTagField$Air;)V"⟩, 7) := ⟨⟨by decide +kernel, by decide +kernel⟩, List.mem_of_getElem? (i := 142) (by decide +kernel), List.mem_of_getElem? (i := 613) (by decide +kernel), List.mem_of_getElem? (i := 614) (by decide +kernel)⟩
theorem lw_p19 : lw_okq (⟨"TagFieldModel", "byteFrom", "(IIII)I"⟩, 29) := ⟨⟨by decide +kernel, by decide +kernel⟩, List.mem_of_getElem? (i := 629) (by decide +kernel), List.mem_of_getElem? (i := 728) (by decide +kernel), List.mem_of_getElem? (i := 729) (by decide +kernel)⟩
theorem lw_p20 : lw_okq (⟨"TagFieldModel", "show", "(IIIIII)V"⟩, 29) := ⟨⟨by decide +kernel, by decide +kernel⟩, List.mem_of_getElem? (i := 629) (by decide +kernel), List.mem_of_getElem? (i := 732) (by decide +kernel), List.mem_of_getElem? (i := 733) (by decide +kernel)⟩
theorem lw_p21 : lw_okq (⟨"TagFieldModel", "isTag", "(I)Z"⟩, 29) := ⟨⟨by decide +kernel, by decide +kernel⟩, List.mem_of_getElem? (i := 629) (by decide +kernel), List.mem_of_getElem? (i := 740) (by decide +kernel), List.mem_of_getElem? (i := 741) (by decide +kernel)⟩
theorem lw_p22 : lw_okq (⟨"TagFieldModel", "type", "(I)I"⟩, 29) := ⟨⟨by decide +kernel, by decide +kernel⟩, List.mem_of_getElem? (i := 629) (by decide +kernel), List.mem_of_getElem? (i := 756) (by decide +kernel), List.mem_of_getElem? (i := 757) (by decide +kernel)⟩
theorem lw_p23 : lw_okq (⟨"TagFieldModel", "send", "()V"⟩, 29) := ⟨⟨by decide +kernel, by decide +kernel⟩, List.mem_of_getElem? (i := 629) (by decide +kernel), List.mem_of_getElem? (i := 778) (by decide +kernel), List.mem_of_getElem? (i := 779) (by decide +kernel)⟩
theorem lw_p24 : lw_okq (⟨"TagFieldModel", "understand", "()V"⟩, 29) := ⟨⟨by decide +kernel, by decide +kernel⟩, List.mem_of_getElem? (i := 629) (by decide +kernel), List.mem_of_getElem? (i := 782) (by decide +kernel), List.mem_of_getElem? (i := 783) (by decide +kernel)⟩
theorem lw_p25 : lw_okq (⟨"TagFieldModel", "hear", "(I)V"⟩, 29) := ⟨⟨by decide +kernel, by decide +kernel⟩, List.mem_of_getElem? (i := 629) (by decide +kernel), List.mem_of_getElem? (i := 786) (by decide +kernel), List.mem_of_getElem? (i := 787) (by decide +kernel)⟩
theorem lw_p26 : lw_okq (⟨"TagFieldModel", "begin", "(II)V"⟩, 29) := ⟨⟨by decide +kernel, by decide +kernel⟩, List.mem_of_getElem? (i := 629) (by decide +kernel), List.mem_of_getElem? (i := 790) (by decide +kernel), List.mem_of_getElem? (i := 791) (by decide +kernel)⟩
theorem lw_p27 : lw_okq (⟨"TagFieldModel", "say", "(I)V"⟩, 29) := ⟨⟨by decide +kernel, by decide +kernel⟩, List.mem_of_getElem? (i := 629) (by decide +kernel), List.mem_of_getElem? (i := 794) (by decide +kernel), List.mem_of_getElem? (i := 795) (by decide +kernel)⟩
theorem lw_p28 : lw_okq (⟨"TagFieldModel", "shows", "(I)Z"⟩, 29) := ⟨⟨by decide +kernel, by decide +kernel⟩, List.mem_of_getElem? (i := 629) (by decide +kernel), List.mem_of_getElem? (i := 798) (by decide +kernel), List.mem_of_getElem? (i := 799) (by decide +kernel)⟩
theorem lw_p29 : lw_okq (⟨"TagFieldModel", "sayRest", "(I)V"⟩, 29) := ⟨⟨by decide +kernel, by decide +kernel⟩, List.mem_of_getElem? (i := 629) (by decide +kernel), List.mem_of_getElem? (i := 802) (by decide +kernel), List.mem_of_getElem? (i := 803) (by decide +kernel)⟩
theorem lw_p30 : lw_okq (⟨"TagFieldModel", "levels", "(I)I"⟩, 29) := ⟨⟨by decide +kernel, by decide +kernel⟩, List.mem_of_getElem? (i := 629) (by decide +kernel), List.mem_of_getElem? (i := 806) (by decide +kernel), List.mem_of_getElem? (i := 807) (by decide +kernel)⟩
theorem lw_p31 : lw_okq (⟨"TagFieldModel", "sayChecked", "(I)V"⟩, 29) := ⟨⟨by decide +kernel, by decide +kernel⟩, List.mem_of_getElem? (i := 629) (by decide +kernel), List.mem_of_getElem? (i := 810) (by decide +kernel), List.mem_of_getElem? (i := 811) (by decide +kernel)⟩
def lw_privs_2 : List (MethodName × Nat) := [(⟨"TagField$Reader", "choose", "(ILTagField$Air;)Z"⟩, 7), (⟨"TagField$Reader", "keepBytes", "(I)V"⟩, 7), (⟨"TagField$Reader", "halt", "(LTagField$Air;)V"⟩, 7), (⟨"TagFieldModel", "byteFrom", "(IIII)I"⟩, 29), (⟨"TagFieldModel", "show", "(IIIIII)V"⟩, 29), (⟨"TagFieldModel", "isTag", "(I)Z"⟩, 29), (⟨"TagFieldModel", "type", "(I)I"⟩, 29), (⟨"TagFieldModel", "send", "()V"⟩, 29), (⟨"TagFieldModel", "understand", "()V"⟩, 29), (⟨"TagFieldModel", "hear", "(I)V"⟩, 29), (⟨"TagFieldModel", "begin", "(II)V"⟩, 29), (⟨"TagFieldModel", "say", "(I)V"⟩, 29), (⟨"TagFieldModel", "shows", "(I)Z"⟩, 29), (⟨"TagFieldModel", "sayRest", "(I)V"⟩, 29), (⟨"TagFieldModel", "levels", "(I)I"⟩, 29), (⟨"TagFieldModel", "sayChecked", "(I)V"⟩, 29)]
theorem lw_r2 : ∀ q ∈ lw_privs_2, lw_okq q := List.forall_mem_cons.mpr ⟨lw_p16, List.forall_mem_cons.mpr ⟨lw_p17, List.forall_mem_cons.mpr ⟨lw_p18, List.forall_mem_cons.mpr ⟨lw_p19, List.forall_mem_cons.mpr ⟨lw_p20, List.forall_mem_cons.mpr ⟨lw_p21, List.forall_mem_cons.mpr ⟨lw_p22, List.forall_mem_cons.mpr ⟨lw_p23, List.forall_mem_cons.mpr ⟨lw_p24, List.forall_mem_cons.mpr ⟨lw_p25, List.forall_mem_cons.mpr ⟨lw_p26, List.forall_mem_cons.mpr ⟨lw_p27, List.forall_mem_cons.mpr ⟨lw_p28, List.forall_mem_cons.mpr ⟨lw_p29, List.forall_mem_cons.mpr ⟨lw_p30, List.forall_mem_cons.mpr ⟨lw_p31, fun _ h => absurd h List.not_mem_nil⟩⟩⟩⟩⟩⟩⟩⟩⟩⟩⟩⟩⟩⟩⟩⟩
theorem lw_p32 : lw_okq (⟨"TagFieldModel", "back", "(I)V"⟩, 29) := ⟨⟨by decide +kernel, by decide +kernel⟩, List.mem_of_getElem? (i := 629) (by decide +kernel), List.mem_of_getElem? (i := 814) (by decide +kernel), List.mem_of_getElem? (i := 815) (by decide +kernel)⟩
theorem lw_p33 : lw_okq (⟨"TagFieldModel", "sendShort", "(I)V"⟩, 29) := ⟨⟨by decide +kernel, by decide +kernel⟩, List.mem_of_getElem? (i := 629) (by decide +kernel), List.mem_of_getElem? (i := 830) (by decide +kernel), List.mem_of_getElem? (i := 831) (by decide +kernel)⟩
theorem lw_p34 : lw_okq (⟨"TagFieldModel", "knows", "(I)Z"⟩, 29) := ⟨⟨by decide +kernel, by decide +kernel⟩, List.mem_of_getElem? (i := 629) (by decide +kernel), List.mem_of_getElem? (i := 834) (by decide +kernel), List.mem_of_getElem? (i := 835) (by decide +kernel)⟩
theorem lw_p35 : lw_okq (⟨"TagFieldModel", "sendSearch", "(I)V"⟩, 29) := ⟨⟨by decide +kernel, by decide +kernel⟩, List.mem_of_getElem? (i := 629) (by decide +kernel), List.mem_of_getElem? (i := 838) (by decide +kernel), List.mem_of_getElem? (i := 839) (by decide +kernel)⟩
theorem lw_p36 : lw_okq (⟨"TagFieldModel", "put", "(I)V"⟩, 29) := ⟨⟨by decide +kernel, by decide +kernel⟩, List.mem_of_getElem? (i := 629) (by decide +kernel), List.mem_of_getElem? (i := 842) (by decide +kernel), List.mem_of_getElem? (i := 843) (by decide +kernel)⟩
theorem lw_p37 : lw_okq (⟨"TagFieldModel", "knownByte", "(I)I"⟩, 29) := ⟨⟨by decide +kernel, by decide +kernel⟩, List.mem_of_getElem? (i := 629) (by decide +kernel), List.mem_of_getElem? (i := 846) (by decide +kernel), List.mem_of_getElem? (i := 847) (by decide +kernel)⟩
theorem lw_p38 : lw_okq (⟨"TagFieldModel", "chooses", "(I)I"⟩, 29) := ⟨⟨by decide +kernel, by decide +kernel⟩, List.mem_of_getElem? (i := 629) (by decide +kernel), List.mem_of_getElem? (i := 850) (by decide +kernel), List.mem_of_getElem? (i := 851) (by decide +kernel)⟩
theorem lw_p39 : lw_okq (⟨"TagFieldModel", "putChecked", "()V"⟩, 29) := ⟨⟨by decide +kernel, by decide +kernel⟩, List.mem_of_getElem? (i := 629) (by decide +kernel), List.mem_of_getElem? (i := 854) (by decide +kernel), List.mem_of_getElem? (i := 855) (by decide +kernel)⟩
def lw_privs_3 : List (MethodName × Nat) := [(⟨"TagFieldModel", "back", "(I)V"⟩, 29), (⟨"TagFieldModel", "sendShort", "(I)V"⟩, 29), (⟨"TagFieldModel", "knows", "(I)Z"⟩, 29), (⟨"TagFieldModel", "sendSearch", "(I)V"⟩, 29), (⟨"TagFieldModel", "put", "(I)V"⟩, 29), (⟨"TagFieldModel", "knownByte", "(I)I"⟩, 29), (⟨"TagFieldModel", "chooses", "(I)I"⟩, 29), (⟨"TagFieldModel", "putChecked", "()V"⟩, 29)]
theorem lw_r3 : ∀ q ∈ lw_privs_3, lw_okq q := List.forall_mem_cons.mpr ⟨lw_p32, List.forall_mem_cons.mpr ⟨lw_p33, List.forall_mem_cons.mpr ⟨lw_p34, List.forall_mem_cons.mpr ⟨lw_p35, List.forall_mem_cons.mpr ⟨lw_p36, List.forall_mem_cons.mpr ⟨lw_p37, List.forall_mem_cons.mpr ⟨lw_p38, List.forall_mem_cons.mpr ⟨lw_p39, fun _ h => absurd h List.not_mem_nil⟩⟩⟩⟩⟩⟩⟩⟩
def lw_privs : List (MethodName × Nat) := lw_privs_1 ++ (lw_privs_2 ++ (lw_privs_3))
def lw_tbl : List Cond := k2_sels lw_privs ++ tables_1
theorem lw_privs_ok : ∀ q ∈ lw_privs, lw_okq q := by
  show ∀ q ∈ lw_privs_1 ++ (lw_privs_2 ++ (lw_privs_3)), lw_okq q
  exact List.forall_mem_append.mpr ⟨lw_r1, List.forall_mem_append.mpr ⟨lw_r2, lw_r3⟩⟩
end
section
def RX0 : String := "TagField$1"
def RX1 : String := "TagField$Air"
def TX1 : u_T := fun k => match k with
  | 0 => ("TagField$Air", "tags", "Ljava/util/ArrayList;", true)
  | 1 => ("TagField$Air", "frame", "LTagField$Frame;", true)
  | 2 => ("TagField$Air", "on", "Z", false)
  | _ => ("TagField$Air", "sent", "I", false)
def tyX1 : Nat → FieldType := fun k => match k with
  | 0 => .object "java/util/ArrayList"
  | 1 => .object "TagField$Frame"
  | 2 => .boolean
  | _ => .int
theorem nmX1 : ∀ a, a < 4 → ∀ b, b < 4 → a ≠ b → (TX1 a).2.1 ≠ (TX1 b).2.1 := by decide +kernel
theorem tyX1_ok : ∀ k, k < 4 → parseFieldDescriptor (TX1 k).2.2.1 = some (tyX1 k) := by decide +kernel
abbrev cX1_init : ByteArray := prog_3_method_1_code
def yX1_init : MethodName := ⟨RX1, "<init>", "()V"⟩
abbrev cX1_count : ByteArray := prog_3_method_2_code
def yX1_count : MethodName := ⟨RX1, "count", "()I"⟩
abbrev cX1_knows : ByteArray := prog_3_method_3_code
def yX1_knows : MethodName := ⟨RX1, "knows", "(I)Z"⟩
abbrev cX1_knowsNumberOf : ByteArray := prog_3_method_4_code
def yX1_knowsNumberOf : MethodName := ⟨RX1, "knowsNumberOf", "(LTagField$Tag;)Z"⟩
abbrev cX1_bring : ByteArray := prog_3_method_5_code
def yX1_bring : MethodName := ⟨RX1, "bring", "(LTagField$Tag;)I"⟩
abbrev cX1_move : ByteArray := prog_3_method_6_code
def yX1_move : MethodName := ⟨RX1, "move", "(IZ)I"⟩
abbrev cX1_turn : ByteArray := prog_3_method_7_code
def yX1_turn : MethodName := ⟨RX1, "turn", "(Z)I"⟩
abbrev cX1_stateOf : ByteArray := prog_3_method_8_code
def yX1_stateOf : MethodName := ⟨RX1, "stateOf", "(I)I"⟩
abbrev cX1_send : ByteArray := prog_3_method_9_code
def yX1_send : MethodName := ⟨RX1, "send", "(LTagField$Row;LTagField$Answer;)I"⟩
def RX2 : String := "TagField$Answer"
def TX2 : u_T := fun k => match k with
  | 0 => ("TagField$Answer", "ones", "J", false)
  | 1 => ("TagField$Answer", "zeros", "J", false)
  | _ => ("TagField$Answer", "length", "I", false)
def tyX2 : Nat → FieldType := fun k => match k with
  | 0 => .long
  | 1 => .long
  | _ => .int
theorem nmX2 : ∀ a, a < 3 → ∀ b, b < 3 → a ≠ b → (TX2 a).2.1 ≠ (TX2 b).2.1 := by decide +kernel
theorem tyX2_ok : ∀ k, k < 3 → parseFieldDescriptor (TX2 k).2.2.1 = some (tyX2 k) := by decide +kernel
abbrev cX2_init : ByteArray := prog_4_method_1_code
def yX2_init : MethodName := ⟨RX2, "<init>", "()V"⟩
abbrev cX2_clear : ByteArray := prog_4_method_2_code
def yX2_clear : MethodName := ⟨RX2, "clear", "()V"⟩
abbrev cX2_lay : ByteArray := prog_4_method_3_code
def yX2_lay : MethodName := ⟨RX2, "lay", "(JI)V"⟩
abbrev cX2_bitAt : ByteArray := prog_4_method_4_code
def yX2_bitAt : MethodName := ⟨RX2, "bitAt", "(I)I"⟩
abbrev cX2_beginsWith : ByteArray := prog_4_method_5_code
def yX2_beginsWith : MethodName := ⟨RX2, "beginsWith", "(I)Z"⟩
def RX3 : String := "TagField$Code"
abbrev cX3_octetsOf : ByteArray := prog_5_method_2_code
def yX3_octetsOf : MethodName := ⟨RX3, "octetsOf", "(JI)J"⟩
abbrev cX3_checkStep : ByteArray := prog_5_method_3_code
def yX3_checkStep : MethodName := ⟨RX3, "checkStep", "(II)I"⟩
abbrev cX3_checkedOctetsOf : ByteArray := prog_5_method_4_code
def yX3_checkedOctetsOf : MethodName := ⟨RX3, "checkedOctetsOf", "(JI)J"⟩
def RX4 : String := "TagField$Frame"
def TX4 : u_T := fun k => match k with
  | 0 => ("TagField$Frame", "kind", "LTagField$Kind;", false)
  | 1 => ("TagField$Frame", "level", "I", false)
  | 2 => ("TagField$Frame", "second", "I", false)
  | 3 => ("TagField$Frame", "told", "J", false)
  | _ => ("TagField$Frame", "toldCount", "I", false)
def tyX4 : Nat → FieldType := fun k => match k with
  | 0 => .object "TagField$Kind"
  | 1 => .int
  | 2 => .int
  | 3 => .long
  | _ => .int
theorem nmX4 : ∀ a, a < 5 → ∀ b, b < 5 → a ≠ b → (TX4 a).2.1 ≠ (TX4 b).2.1 := by decide +kernel
theorem tyX4_ok : ∀ k, k < 5 → parseFieldDescriptor (TX4 k).2.2.1 = some (tyX4 k) := by decide +kernel
abbrev cX4_init : ByteArray := prog_6_method_1_code
def yX4_init : MethodName := ⟨RX4, "<init>", "()V"⟩
abbrev cX4_read : ByteArray := prog_6_method_2_code
def yX4_read : MethodName := ⟨RX4, "read", "(LTagField$Row;)V"⟩
abbrev cX4_kindOfShort : ByteArray := prog_6_method_3_code
def yX4_kindOfShort : MethodName := ⟨RX4, "kindOfShort", "(I)LTagField$Kind;"⟩
abbrev cX4_kindOfCommand : ByteArray := prog_6_method_4_code
def yX4_kindOfCommand : MethodName := ⟨RX4, "kindOfCommand", "(II)LTagField$Kind;"⟩
abbrev cX4_readTold : ByteArray := prog_6_method_5_code
def yX4_readTold : MethodName := ⟨RX4, "readTold", "(LTagField$Row;II)V"⟩
abbrev cX4_levelOf : ByteArray := prog_6_method_6_code
def yX4_levelOf : MethodName := ⟨RX4, "levelOf", "(I)I"⟩
abbrev cX4_levelByte : ByteArray := prog_6_method_7_code
def yX4_levelByte : MethodName := ⟨RX4, "levelByte", "(I)I"⟩
def RX5 : String := "TagField$Kind"
def RX6 : String := "TagField$Reader"
def TX6 : u_T := fun k => match k with
  | 0 => ("TagField$Reader", "row", "LTagField$Row;", true)
  | 1 => ("TagField$Reader", "heard", "LTagField$Answer;", true)
  | 2 => ("TagField$Reader", "numbers", "[I", true)
  | 3 => ("TagField$Reader", "sizes", "[I", true)
  | 4 => ("TagField$Reader", "count", "I", false)
  | 5 => ("TagField$Reader", "known", "J", false)
  | _ => ("TagField$Reader", "knownCount", "I", false)
def tyX6 : Nat → FieldType := fun k => match k with
  | 0 => .object "TagField$Row"
  | 1 => .object "TagField$Answer"
  | 2 => .array .int
  | 3 => .array .int
  | 4 => .int
  | 5 => .long
  | _ => .int
theorem nmX6 : ∀ a, a < 7 → ∀ b, b < 7 → a ≠ b → (TX6 a).2.1 ≠ (TX6 b).2.1 := by decide +kernel
theorem tyX6_ok : ∀ k, k < 7 → parseFieldDescriptor (TX6 k).2.2.1 = some (tyX6 k) := by decide +kernel
abbrev cX6_init : ByteArray := prog_8_method_1_code
def yX6_init : MethodName := ⟨RX6, "<init>", "()V"⟩
abbrev cX6_forget : ByteArray := prog_8_method_2_code
def yX6_forget : MethodName := ⟨RX6, "forget", "()V"⟩
abbrev cX6_byteFound : ByteArray := prog_8_method_3_code
def yX6_byteFound : MethodName := ⟨RX6, "byteFound", "(II)I"⟩
abbrev cX6_findOne : ByteArray := prog_8_method_4_code
def yX6_findOne : MethodName := ⟨RX6, "findOne", "(LTagField$Air;)Z"⟩
abbrev cX6_searchLevel : ByteArray := prog_8_method_5_code
def yX6_searchLevel : MethodName := ⟨RX6, "searchLevel", "(ILTagField$Air;)Z"⟩
abbrev cX6_layOutSearch : ByteArray := prog_8_method_6_code
def yX6_layOutSearch : MethodName := ⟨RX6, "layOutSearch", "(I)V"⟩
abbrev cX6_learn : ByteArray := prog_8_method_7_code
def yX6_learn : MethodName := ⟨RX6, "learn", "()V"⟩
abbrev cX6_choose : ByteArray := prog_8_method_8_code
def yX6_choose : MethodName := ⟨RX6, "choose", "(ILTagField$Air;)Z"⟩
abbrev cX6_halt : ByteArray := prog_8_method_9_code
def yX6_halt : MethodName := ⟨RX6, "halt", "(LTagField$Air;)V"⟩
abbrev cX6_knownByte : ByteArray := prog_8_method_10_code
def yX6_knownByte : MethodName := ⟨RX6, "knownByte", "(I)I"⟩
abbrev cX6_keepBytes : ByteArray := prog_8_method_11_code
def yX6_keepBytes : MethodName := ⟨RX6, "keepBytes", "(I)V"⟩
def RX7 : String := "TagField$Reply"
def RX8 : String := "TagField$Row"
def TX8 : u_T := fun k => match k with
  | 0 => ("TagField$Row", "bits", "[I", true)
  | _ => ("TagField$Row", "size", "I", false)
def tyX8 : Nat → FieldType := fun k => match k with
  | 0 => .array .int
  | _ => .int
theorem nmX8 : ∀ a, a < 2 → ∀ b, b < 2 → a ≠ b → (TX8 a).2.1 ≠ (TX8 b).2.1 := by decide +kernel
theorem tyX8_ok : ∀ k, k < 2 → parseFieldDescriptor (TX8 k).2.2.1 = some (tyX8 k) := by decide +kernel
abbrev cX8_init : ByteArray := prog_10_method_1_code
def yX8_init : MethodName := ⟨RX8, "<init>", "(I)V"⟩
abbrev cX8_clear : ByteArray := prog_10_method_2_code
def yX8_clear : MethodName := ⟨RX8, "clear", "()V"⟩
abbrev cX8_hasRoomFor : ByteArray := prog_10_method_3_code
def yX8_hasRoomFor : MethodName := ⟨RX8, "hasRoomFor", "(I)Z"⟩
abbrev cX8_addBits : ByteArray := prog_10_method_4_code
def yX8_addBits : MethodName := ⟨RX8, "addBits", "(II)V"⟩
abbrev cX8_addOctet : ByteArray := prog_10_method_5_code
def yX8_addOctet : MethodName := ⟨RX8, "addOctet", "(I)V"⟩
abbrev cX8_addCheck : ByteArray := prog_10_method_6_code
def yX8_addCheck : MethodName := ⟨RX8, "addCheck", "()V"⟩
abbrev cX8_valueAt : ByteArray := prog_10_method_7_code
def yX8_valueAt : MethodName := ⟨RX8, "valueAt", "(II)I"⟩
abbrev cX8_beginsWithOctets : ByteArray := prog_10_method_8_code
def yX8_beginsWithOctets : MethodName := ⟨RX8, "beginsWithOctets", "(I)Z"⟩
abbrev cX8_checkOf : ByteArray := prog_10_method_9_code
def yX8_checkOf : MethodName := ⟨RX8, "checkOf", "(I)I"⟩
def RX9 : String := "TagField$Tag"
def TX9 : u_T := fun k => match k with
  | 0 => ("TagField$Tag", "levels", "I", true)
  | 1 => ("TagField$Tag", "shown", "[J", true)
  | 2 => ("TagField$Tag", "away", "Z", false)
  | 3 => ("TagField$Tag", "state", "I", false)
  | _ => ("TagField$Tag", "level", "I", false)
def tyX9 : Nat → FieldType := fun k => match k with
  | 0 => .int
  | 1 => .array .long
  | 2 => .boolean
  | 3 => .int
  | _ => .int
theorem nmX9 : ∀ a, a < 5 → ∀ b, b < 5 → a ≠ b → (TX9 a).2.1 ≠ (TX9 b).2.1 := by decide +kernel
theorem tyX9_ok : ∀ k, k < 5 → parseFieldDescriptor (TX9 k).2.2.1 = some (tyX9 k) := by decide +kernel
abbrev cX9_init : ByteArray := prog_11_method_1_code
def yX9_init : MethodName := ⟨RX9, "<init>", "(IIII)V"⟩
abbrev cX9_shownAt : ByteArray := prog_11_method_2_code
def yX9_shownAt : MethodName := ⟨RX9, "shownAt", "(IZIII)J"⟩
abbrev cX9_numberByte : ByteArray := prog_11_method_3_code
def yX9_numberByte : MethodName := ⟨RX9, "numberByte", "(IIII)I"⟩
abbrev cX9_looksUnfinished : ByteArray := prog_11_method_4_code
def yX9_looksUnfinished : MethodName := ⟨RX9, "looksUnfinished", "()Z"⟩
abbrev cX9_hasNumberOf : ByteArray := prog_11_method_5_code
def yX9_hasNumberOf : MethodName := ⟨RX9, "hasNumberOf", "(LTagField$Tag;)Z"⟩
abbrev cX9_move : ByteArray := prog_11_method_6_code
def yX9_move : MethodName := ⟨RX9, "move", "(ZZ)Z"⟩
abbrev cX9_beginAnew : ByteArray := prog_11_method_7_code
def yX9_beginAnew : MethodName := ⟨RX9, "beginAnew", "(Z)V"⟩
abbrev cX9_stateAndLevel : ByteArray := prog_11_method_8_code
def yX9_stateAndLevel : MethodName := ⟨RX9, "stateAndLevel", "()I"⟩
abbrev cX9_hear : ByteArray := prog_11_method_9_code
def yX9_hear : MethodName := ⟨RX9, "hear", "(LTagField$Frame;)LTagField$Reply;"⟩
abbrev cX9_become : ByteArray := prog_11_method_10_code
def yX9_become : MethodName := ⟨RX9, "become", "(ILTagField$Reply;)LTagField$Reply;"⟩
abbrev cX9_becomeReady : ByteArray := prog_11_method_11_code
def yX9_becomeReady : MethodName := ⟨RX9, "becomeReady", "(I)LTagField$Reply;"⟩
abbrev cX9_hearReady : ByteArray := prog_11_method_12_code
def yX9_hearReady : MethodName := ⟨RX9, "hearReady", "(LTagField$Frame;)LTagField$Reply;"⟩
abbrev cX9_showsWhatIsTold : ByteArray := prog_11_method_13_code
def yX9_showsWhatIsTold : MethodName := ⟨RX9, "showsWhatIsTold", "(LTagField$Frame;)Z"⟩
abbrev cX9_becomeChosen : ByteArray := prog_11_method_14_code
def yX9_becomeChosen : MethodName := ⟨RX9, "becomeChosen", "()LTagField$Reply;"⟩
abbrev cX9_hearActive : ByteArray := prog_11_method_15_code
def yX9_hearActive : MethodName := ⟨RX9, "hearActive", "(LTagField$Frame;)LTagField$Reply;"⟩
abbrev cX9_goBack : ByteArray := prog_11_method_16_code
def yX9_goBack : MethodName := ⟨RX9, "goBack", "()LTagField$Reply;"⟩
abbrev cX9_say : ByteArray := prog_11_method_17_code
def yX9_say : MethodName := ⟨RX9, "say", "(LTagField$Reply;LTagField$Frame;LTagField$Answer;)V"⟩
def RX10 : String := "TagField"
def TX10 : u_T := fun k => match k with
  | 0 => ("TagField", "typed", "LTagField$Row;", true)
  | 1 => ("TagField", "latest", "LTagField$Answer;", true)
  | 2 => ("TagField", "air", "LTagField$Air;", true)
  | _ => ("TagField", "reader", "LTagField$Reader;", true)
def tyX10 : Nat → FieldType := fun k => match k with
  | 0 => .object "TagField$Row"
  | 1 => .object "TagField$Answer"
  | 2 => .object "TagField$Air"
  | _ => .object "TagField$Reader"
theorem nmX10 : ∀ a, a < 4 → ∀ b, b < 4 → a ≠ b → (TX10 a).2.1 ≠ (TX10 b).2.1 := by decide +kernel
theorem tyX10_ok : ∀ k, k < 4 → parseFieldDescriptor (TX10 k).2.2.1 = some (tyX10 k) := by decide +kernel
abbrev cX10_init : ByteArray := prog_1_method_1_code
def yX10_init : MethodName := ⟨RX10, "<init>", "()V"⟩
abbrev cX10_tag : ByteArray := prog_1_method_2_code
def yX10_tag : MethodName := ⟨RX10, "tag", "(IIII)I"⟩
abbrev cX10_out : ByteArray := prog_1_method_3_code
def yX10_out : MethodName := ⟨RX10, "out", "(IZ)I"⟩
abbrev cX10_field : ByteArray := prog_1_method_4_code
def yX10_field : MethodName := ⟨RX10, "field", "(Z)I"⟩
abbrev cX10_bits : ByteArray := prog_1_method_5_code
def yX10_bits : MethodName := ⟨RX10, "bits", "(II)I"⟩
abbrev cX10_octet : ByteArray := prog_1_method_6_code
def yX10_octet : MethodName := ⟨RX10, "octet", "(I)I"⟩
abbrev cX10_check : ByteArray := prog_1_method_7_code
def yX10_check : MethodName := ⟨RX10, "check", "()I"⟩
abbrev cX10_go : ByteArray := prog_1_method_8_code
def yX10_go : MethodName := ⟨RX10, "go", "()I"⟩
abbrev cX10_answer : ByteArray := prog_1_method_9_code
def yX10_answer : MethodName := ⟨RX10, "answer", "(I)I"⟩
abbrev cX10_state : ByteArray := prog_1_method_10_code
def yX10_state : MethodName := ⟨RX10, "state", "(I)I"⟩
abbrev cX10_round : ByteArray := prog_1_method_11_code
def yX10_round : MethodName := ⟨RX10, "round", "()I"⟩
abbrev cX10_found : ByteArray := prog_1_method_12_code
def yX10_found : MethodName := ⟨RX10, "found", "(II)I"⟩
abbrev cX10_frames : ByteArray := prog_1_method_13_code
def yX10_frames : MethodName := ⟨RX10, "frames", "()I"⟩
def RX11 : String := "TagFieldModel"
def TX11 : u_T := fun k => match k with
  | 0 => ("TagFieldModel", "tags", "I", false)
  | 1 => ("TagFieldModel", "size", "[I", true)
  | 2 => ("TagFieldModel", "number", "[I", true)
  | 3 => ("TagFieldModel", "gone", "[Z", true)
  | 4 => ("TagFieldModel", "state", "[I", true)
  | 5 => ("TagFieldModel", "level", "[I", true)
  | 6 => ("TagFieldModel", "shown", "[I", true)
  | 7 => ("TagFieldModel", "on", "Z", false)
  | 8 => ("TagFieldModel", "typed", "I", false)
  | 9 => ("TagFieldModel", "typedBits", "[I", true)
  | 10 => ("TagFieldModel", "sent", "I", false)
  | 11 => ("TagFieldModel", "sentBits", "[I", true)
  | 12 => ("TagFieldModel", "sentBytes", "[I", true)
  | 13 => ("TagFieldModel", "kind", "I", false)
  | 14 => ("TagFieldModel", "kindLevel", "I", false)
  | 15 => ("TagFieldModel", "told", "I", false)
  | 16 => ("TagFieldModel", "toldBits", "[I", true)
  | 17 => ("TagFieldModel", "said", "I", false)
  | 18 => ("TagFieldModel", "saidBits", "[I", true)
  | 19 => ("TagFieldModel", "heard", "I", false)
  | 20 => ("TagFieldModel", "heardBits", "[I", true)
  | 21 => ("TagFieldModel", "answered", "I", false)
  | 22 => ("TagFieldModel", "answerBits", "[I", true)
  | 23 => ("TagFieldModel", "frames", "I", false)
  | 24 => ("TagFieldModel", "founds", "I", false)
  | 25 => ("TagFieldModel", "foundSize", "[I", true)
  | 26 => ("TagFieldModel", "foundBytes", "[I", true)
  | 27 => ("TagFieldModel", "known", "I", false)
  | _ => ("TagFieldModel", "knownBits", "[I", true)
def tyX11 : Nat → FieldType := fun k => match k with
  | 0 => .int
  | 1 => .array .int
  | 2 => .array .int
  | 3 => .array .boolean
  | 4 => .array .int
  | 5 => .array .int
  | 6 => .array .int
  | 7 => .boolean
  | 8 => .int
  | 9 => .array .int
  | 10 => .int
  | 11 => .array .int
  | 12 => .array .int
  | 13 => .int
  | 14 => .int
  | 15 => .int
  | 16 => .array .int
  | 17 => .int
  | 18 => .array .int
  | 19 => .int
  | 20 => .array .int
  | 21 => .int
  | 22 => .array .int
  | 23 => .int
  | 24 => .int
  | 25 => .array .int
  | 26 => .array .int
  | 27 => .int
  | _ => .array .int
theorem nmX11 : ∀ a, a < 29 → ∀ b, b < 29 → a ≠ b → (TX11 a).2.1 ≠ (TX11 b).2.1 := by decide +kernel
theorem tyX11_ok : ∀ k, k < 29 → parseFieldDescriptor (TX11 k).2.2.1 = some (tyX11 k) := by decide +kernel
abbrev cX11_init : ByteArray := prog_13_method_1_code
def yX11_init : MethodName := ⟨RX11, "<init>", "()V"⟩
abbrev cX11_byteFrom : ByteArray := prog_13_method_2_code
def yX11_byteFrom : MethodName := ⟨RX11, "byteFrom", "(IIII)I"⟩
abbrev cX11_show : ByteArray := prog_13_method_3_code
def yX11_show : MethodName := ⟨RX11, "show", "(IIIIII)V"⟩
abbrev cX11_tag : ByteArray := prog_13_method_4_code
def yX11_tag : MethodName := ⟨RX11, "tag", "(IIII)I"⟩
abbrev cX11_levels : ByteArray := prog_13_method_5_code
def yX11_levels : MethodName := ⟨RX11, "levels", "(I)I"⟩
abbrev cX11_isTag : ByteArray := prog_13_method_6_code
def yX11_isTag : MethodName := ⟨RX11, "isTag", "(I)Z"⟩
abbrev cX11_out : ByteArray := prog_13_method_7_code
def yX11_out : MethodName := ⟨RX11, "out", "(IZ)I"⟩
abbrev cX11_field : ByteArray := prog_13_method_8_code
def yX11_field : MethodName := ⟨RX11, "field", "(Z)I"⟩
abbrev cX11_bits : ByteArray := prog_13_method_9_code
def yX11_bits : MethodName := ⟨RX11, "bits", "(II)I"⟩
abbrev cX11_parity : ByteArray := prog_13_method_10_code
def yX11_parity : MethodName := ⟨RX11, "parity", "(I)I"⟩
abbrev cX11_type : ByteArray := prog_13_method_11_code
def yX11_type : MethodName := ⟨RX11, "type", "(I)I"⟩
abbrev cX11_octet : ByteArray := prog_13_method_12_code
def yX11_octet : MethodName := ⟨RX11, "octet", "(I)I"⟩
abbrev cX11_read : ByteArray := prog_13_method_13_code
def yX11_read : MethodName := ⟨RX11, "read", "([II)I"⟩
abbrev cX11_checked : ByteArray := prog_13_method_14_code
def yX11_checked : MethodName := ⟨RX11, "checked", "(II)I"⟩
abbrev cX11_check : ByteArray := prog_13_method_15_code
def yX11_check : MethodName := ⟨RX11, "check", "()I"⟩
abbrev cX11_understand : ByteArray := prog_13_method_16_code
def yX11_understand : MethodName := ⟨RX11, "understand", "()V"⟩
abbrev cX11_say : ByteArray := prog_13_method_17_code
def yX11_say : MethodName := ⟨RX11, "say", "(I)V"⟩
abbrev cX11_sayChecked : ByteArray := prog_13_method_18_code
def yX11_sayChecked : MethodName := ⟨RX11, "sayChecked", "(I)V"⟩
abbrev cX11_shows : ByteArray := prog_13_method_19_code
def yX11_shows : MethodName := ⟨RX11, "shows", "(I)Z"⟩
abbrev cX11_sayRest : ByteArray := prog_13_method_20_code
def yX11_sayRest : MethodName := ⟨RX11, "sayRest", "(I)V"⟩
abbrev cX11_back : ByteArray := prog_13_method_21_code
def yX11_back : MethodName := ⟨RX11, "back", "(I)V"⟩
abbrev cX11_begin : ByteArray := prog_13_method_22_code
def yX11_begin : MethodName := ⟨RX11, "begin", "(II)V"⟩
abbrev cX11_hear : ByteArray := prog_13_method_23_code
def yX11_hear : MethodName := ⟨RX11, "hear", "(I)V"⟩
abbrev cX11_send : ByteArray := prog_13_method_24_code
def yX11_send : MethodName := ⟨RX11, "send", "()V"⟩
abbrev cX11_go : ByteArray := prog_13_method_25_code
def yX11_go : MethodName := ⟨RX11, "go", "()I"⟩
abbrev cX11_answer : ByteArray := prog_13_method_26_code
def yX11_answer : MethodName := ⟨RX11, "answer", "(I)I"⟩
abbrev cX11_state : ByteArray := prog_13_method_27_code
def yX11_state : MethodName := ⟨RX11, "state", "(I)I"⟩
abbrev cX11_put : ByteArray := prog_13_method_28_code
def yX11_put : MethodName := ⟨RX11, "put", "(I)V"⟩
abbrev cX11_putChecked : ByteArray := prog_13_method_29_code
def yX11_putChecked : MethodName := ⟨RX11, "putChecked", "()V"⟩
abbrev cX11_sendShort : ByteArray := prog_13_method_30_code
def yX11_sendShort : MethodName := ⟨RX11, "sendShort", "(I)V"⟩
abbrev cX11_knownByte : ByteArray := prog_13_method_31_code
def yX11_knownByte : MethodName := ⟨RX11, "knownByte", "(I)I"⟩
abbrev cX11_sendSearch : ByteArray := prog_13_method_32_code
def yX11_sendSearch : MethodName := ⟨RX11, "sendSearch", "(I)V"⟩
abbrev cX11_knows : ByteArray := prog_13_method_33_code
def yX11_knows : MethodName := ⟨RX11, "knows", "(I)Z"⟩
abbrev cX11_chooses : ByteArray := prog_13_method_34_code
def yX11_chooses : MethodName := ⟨RX11, "chooses", "(I)I"⟩
abbrev cX11_round : ByteArray := prog_13_method_35_code
def yX11_round : MethodName := ⟨RX11, "round", "()I"⟩
abbrev cX11_found : ByteArray := prog_13_method_36_code
def yX11_found : MethodName := ⟨RX11, "found", "(II)I"⟩
abbrev cX11_frames : ByteArray := prog_13_method_37_code
def yX11_frames : MethodName := ⟨RX11, "frames", "()I"⟩
def RJx145de : String := "java/io/Serializable"
def RJx8e188 : String := "java/lang/Cloneable"
def RJx29ce0 : String := "java/lang/Enum"
abbrev cJx29ce0_ordinal_8abf5 : ByteArray := prog_16_method_2_code
def yJx29ce0_ordinal_8abf5 : MethodName := ⟨RJx29ce0, "ordinal", "()I"⟩
def RJ6 : String := "java/lang/Integer"
abbrev cJ6_bitCount_0f7a4 : ByteArray := prog_17_method_49_code
def yJ6_bitCount_0f7a4 : MethodName := ⟨RJ6, "bitCount", "(I)I"⟩
def RJxab1ab : String := "java/lang/Iterable"
def RJ13 : String := "java/lang/Long"
abbrev cJ13_bitCount_95d88 : ByteArray := prog_19_method_50_code
def yJ13_bitCount_95d88 : MethodName := ⟨RJ13, "bitCount", "(J)I"⟩
def RJ9 : String := "java/lang/Math"
abbrev cJ9_max_7cf53 : ByteArray := prog_20_method_65_code
def yJ9_max_7cf53 : MethodName := ⟨RJ9, "max", "(II)I"⟩
abbrev cJ9_min_7cf53 : ByteArray := prog_20_method_69_code
def yJ9_min_7cf53 : MethodName := ⟨RJ9, "min", "(II)I"⟩
def RJ10 : String := "java/lang/System"
def RJxa1e45 : String := "java/util/AbstractCollection"
abbrev cJxa1e45_init_da8c8 : ByteArray := prog_22_method_1_code
def yJxa1e45_init_da8c8 : MethodName := ⟨RJxa1e45, "<init>", "()V"⟩
def RJxc12de : String := "java/util/AbstractList"
abbrev cJxc12de_init_da8c8 : ByteArray := prog_23_method_1_code
def yJxc12de_init_da8c8 : MethodName := ⟨RJxc12de, "<init>", "()V"⟩
def RJx4a65c : String := "java/util/ArrayList"
def TJx4a65c : u_T := fun k => match k with
  | 0 => ("java/util/AbstractList", "modCount", "I", false)
  | 1 => ("java/util/ArrayList", "elementData", "[Ljava/lang/Object;", false)
  | _ => ("java/util/ArrayList", "size", "I", false)
def tyJx4a65c : Nat → FieldType := fun k => match k with
  | 0 => .int
  | 1 => .array (.object "java/lang/Object")
  | _ => .int
theorem nmJx4a65c : ∀ a, a < 3 → ∀ b, b < 3 → a ≠ b → (TJx4a65c a).2.1 ≠ (TJx4a65c b).2.1 := by decide +kernel
theorem tyJx4a65c_ok : ∀ k, k < 3 → parseFieldDescriptor (TJx4a65c k).2.2.1 = some (tyJx4a65c k) := by decide +kernel
abbrev cJx4a65c_init_da8c8 : ByteArray := prog_24_method_2_code
def yJx4a65c_init_da8c8 : MethodName := ⟨RJx4a65c, "<init>", "()V"⟩
abbrev cJx4a65c_grow_92f84 : ByteArray := prog_24_method_6_code
def yJx4a65c_grow_92f84 : MethodName := ⟨RJx4a65c, "grow", "(I)[Ljava/lang/Object;"⟩
abbrev cJx4a65c_grow_d5877 : ByteArray := prog_24_method_7_code
def yJx4a65c_grow_d5877 : MethodName := ⟨RJx4a65c, "grow", "()[Ljava/lang/Object;"⟩
abbrev cJx4a65c_size_8abf5 : ByteArray := prog_24_method_8_code
def yJx4a65c_size_8abf5 : MethodName := ⟨RJx4a65c, "size", "()I"⟩
abbrev cJx4a65c_elementData_915e3 : ByteArray := prog_24_method_18_code
def yJx4a65c_elementData_915e3 : MethodName := ⟨RJx4a65c, "elementData", "(I)Ljava/lang/Object;"⟩
abbrev cJx4a65c_get_915e3 : ByteArray := prog_24_method_20_code
def yJx4a65c_get_915e3 : MethodName := ⟨RJx4a65c, "get", "(I)Ljava/lang/Object;"⟩
abbrev cJx4a65c_add_72be8 : ByteArray := prog_24_method_24_code
def yJx4a65c_add_72be8 : MethodName := ⟨RJx4a65c, "add", "(Ljava/lang/Object;[Ljava/lang/Object;I)V"⟩
abbrev cJx4a65c_add_9ea2d : ByteArray := prog_24_method_25_code
def yJx4a65c_add_9ea2d : MethodName := ⟨RJx4a65c, "add", "(Ljava/lang/Object;)Z"⟩
def RJ7 : String := "java/util/Arrays"
abbrev cJ7_copyOf_1904c : ByteArray := prog_25_method_119_code
def yJ7_copyOf_1904c : MethodName := ⟨RJ7, "copyOf", "([Ljava/lang/Object;I)[Ljava/lang/Object;"⟩
abbrev cJ7_copyOf_6403c : ByteArray := prog_25_method_120_code
def yJ7_copyOf_6403c : MethodName := ⟨RJ7, "copyOf", "([Ljava/lang/Object;ILjava/lang/Class;)[Ljava/lang/Object;"⟩
def RJx5ef63 : String := "java/util/Collection"
def RJxbd725 : String := "java/util/List"
def RJ15 : String := "java/util/Objects"
abbrev cJ15_checkIndex_7cf53 : ByteArray := prog_28_method_17_code
def yJ15_checkIndex_7cf53 : MethodName := ⟨RJ15, "checkIndex", "(II)I"⟩
def RJxf0a74 : String := "java/util/RandomAccess"
def RJxa66e6 : String := "java/util/SequencedCollection"
def RJ8 : String := "jdk/internal/util/ArraysSupport"
abbrev cJ8_newLength_cabcc : ByteArray := prog_31_method_27_code
def yJ8_newLength_cabcc : MethodName := ⟨RJ8, "newLength", "(III)I"⟩
abbrev cJ8_hugeLength_7cf53 : ByteArray := prog_31_method_28_code
def yJ8_hugeLength_7cf53 : MethodName := ⟨RJ8, "hugeLength", "(II)I"⟩
def RJ3 : String := "jdk/internal/util/Preconditions"
abbrev cJ3_checkIndex_8e157 : ByteArray := prog_32_method_11_code
def yJ3_checkIndex_8e157 : MethodName := ⟨RJ3, "checkIndex", "(IILjava/util/function/BiFunction;)I"⟩
def RL : String := "TagFieldLaw"
abbrev cL_law : ByteArray := code
def yL_law : MethodName := ⟨RL, "law", "([I)Z"⟩
-- the classes whose objects the worlds hold
abbrev cls : List vw_C := [(RX1, TX1, 4), (RX2, TX2, 3), (RX4, TX4, 5), (RX6, TX6, 7), (RX8, TX8, 2), (RX9, TX9, 5), (RX10, TX10, 4), (RX11, TX11, 29), (RJx4a65c, TJx4a65c, 3)]
end
section
/-! my own heap words: a world is a partial map of addresses to cells; the heap that the law began with lies below it and stays -/
abbrev hp_M : Type := Nat → Option va_E
def hp_up (μ : hp_M) (a : Nat) (e : va_E) : hp_M := fun q => if q = a then some e else μ q
theorem hp_up_s (μ : hp_M) (a : Nat) (e : va_E) : hp_up μ a e a = some e := if_pos rfl
theorem hp_up_n {μ : hp_M} {a q : Nat} {e : va_E} (h : q ≠ a) : hp_up μ a e q = μ q := if_neg h
theorem hp_up_e {μ : hp_M} {a q : Nat} {e : va_E} (h : q = a) : hp_up μ a e q = some e := if_pos h
/-- classes and slots; the first heap; the classes of arrays; the addresses of constants -/
abbrev hp_X : Type := va_G × Heap × (Nat → ClassId) × (Nat → Nat)
def hp_w (X : hp_X) (cl : List vw_C) (μ : hp_M) (nx : Nat) (H : Heap) (locs : List Loc) : Prop :=
  H.size = nx ∧ X.2.1.size ≤ nx ∧ (∀ q : Nat, q < X.2.1.size → H[q]? = X.2.1[q]?) ∧ (∀ (a : Nat) (e : va_E), μ a = some e → X.2.1.size ≤ a ∧ va_at X.1 cl (a, e) H) ∧ ∀ q ∈ locs, X.2.1.size ≤ q.base
theorem hp_w.lt {X : hp_X} {cl : List vw_C} {μ : hp_M} {nx : Nat} {H : Heap} {locs : List Loc} (h : hp_w X cl μ nx H locs) {a : Nat} {e : va_E} (ha : μ a = some e) : a < nx := by
  have := (h.2.2.2.1 a e ha).2.lt
  rw [h.1] at this
  exact this
theorem hp_w.fresh {X : hp_X} {cl : List vw_C} {μ : hp_M} {nx : Nat} {H : Heap} {locs : List Loc} (h : hp_w X cl μ nx H locs) {a : Nat} (ha : nx ≤ a) : μ a = none := by
  cases hm : μ a with
  | none => rfl
  | some e => exact absurd (h.lt hm) (by omega)
theorem hp_w.set {X : hp_X} {cl : List vw_C} {μ : hp_M} {nx : Nat} {H H1 : Heap} {locs : List Loc} {a k : Nat} {e0 e : va_E} (h : hp_w X cl μ nx H locs) (ha : μ a = some e0) (he : va_at X.1 cl (a, e) H1) (z : H1.size = H.size) (oq : ∀ q : Nat, q ≠ a → H1[q]? = H[q]?) : hp_w X cl (hp_up μ a e) nx H1 (locs ++ [⟨a, k⟩]) := by
  obtain ⟨h1, h2, h3, h4, h5⟩ := h
  have hA := (h4 a e0 ha).1
  refine ⟨z.trans h1, h2, fun q hq => ?_, fun b x hb => ?_, fun q hq => ?_⟩
  · rw [oq q (by omega)]
    exact h3 q hq
  · by_cases hba : b = a
    · subst hba
      rw [hp_up_s] at hb
      cases hb
      exact ⟨hA, he⟩
    · rw [hp_up_n hba] at hb
      exact ⟨(h4 b x hb).1, (h4 b x hb).2.kept (oq b hba)⟩
  · rcases List.mem_append.mp hq with q1 | q1
    · exact h5 q q1
    · rw [List.mem_singleton.mp q1]
      exact hA
theorem hp_w.push {X : hp_X} {cl : List vw_C} {μ : hp_M} {nx : Nat} {H H1 : Heap} {locs : List Loc} {e : va_E} (h : hp_w X cl μ nx H locs) (he : va_at X.1 cl (nx, e) H1) (z : H1.size = nx + 1) (o : ∀ q : Nat, q < nx → H1[q]? = H[q]?) : hp_w X cl (hp_up μ nx e) (nx + 1) H1 locs := by
  have hf := fun b x hb => h.lt (a := b) (e := x) hb
  obtain ⟨h1, h2, h3, h4, h5⟩ := h
  refine ⟨z, by omega, fun q hq => ?_, fun b x hb => ?_, h5⟩
  · rw [o q (by omega)]
    exact h3 q hq
  · by_cases hba : b = nx
    · subst hba
      rw [hp_up_s] at hb
      cases hb
      exact ⟨h2, he⟩
    · rw [hp_up_n hba] at hb
      exact ⟨(h4 b x hb).1, (h4 b x hb).2.kept (o b (hf b x hb))⟩
theorem hp_w.congr {X : hp_X} {cl : List vw_C} {μ μ' : hp_M} {nx : Nat} {H : Heap} {locs : List Loc} (h : hp_w X cl μ nx H locs) (e : μ = μ') : hp_w X cl μ' nx H locs := e ▸ h
/-- cells -/
abbrev hp_i (X : hp_X) (n : Nat) (f : Nat → Int32) : va_E := .inl (X.2.2.1 0, n, .inl f)
abbrev hp_l (X : hp_X) (n : Nat) (f : Nat → Int64) : va_E := .inl (X.2.2.1 1, n, .inr (.inl f))
abbrev hp_q (X : hp_X) (n : Nat) (f : Nat → Option Nat) : va_E := .inl (X.2.2.1 2, n, .inr (.inr (.inr (.inr f))))
abbrev hp_o (ci : Nat) (fs : List Value) : va_E := .inr (ci, fs)
/-- what a field instruction links -/
def hp_F (cl : List vw_C) (s : State) (args : Array Value) (own : String) (index ci k : Nat) : Prop :=
  ∃ (C : String) (T : u_T) (N : Nat) (ref : String), cl[ci]? = some (C, T, N) ∧ k < N ∧ (∀ w ∈ u_ws C T N, w.before args s = true) ∧ ((Cond.fieldLink own index ref (T k).2.1 (T k).2.2.1).before args s = true ∨ ∃ host : String, (Cond.fieldLinkNest own index ref (T k).2.1 (T k).2.2.1 host).before args s = true) ∧ (∀ x, s.fieldFound? (T k).1 (T k).2.1 (T k).2.2.1 = some x → s.fieldFound? ref (T k).2.1 (T k).2.2.1 = some x)
/-- a class's table is a good one -/
def hp_T (T : u_T) (N : Nat) (ty : Nat → FieldType) : Prop := (∀ k, k < N → parseFieldDescriptor (T k).2.2.1 = some (ty k)) ∧ (∀ a, a < N → ∀ b, b < N → a ≠ b → (T a).2.1 ≠ (T b).2.1)
def hp_P (cl : List vw_C) (s : State) (args : Array Value) (own : String) (index ci k : Nat) (ty : FieldType) (fin : Bool) : Prop :=
  ∃ (C : String) (T : u_T) (N : Nat) (ref : String) (ty0 : Nat → FieldType), cl[ci]? = some (C, T, N) ∧ k < N ∧ (∀ w ∈ u_ws C T N, w.before args s = true) ∧ ((Cond.fieldLink own index ref (T k).2.1 (T k).2.2.1).before args s = true ∨ (fin = false ∧ ∃ host : String, (Cond.fieldLinkNest own index ref (T k).2.1 (T k).2.2.1 host).before args s = true)) ∧ (∀ x, s.fieldFound? (T k).1 (T k).2.1 (T k).2.2.1 = some x → s.fieldFound? ref (T k).2.1 (T k).2.2.1 = some x) ∧ (T k).2.2.2 = fin ∧ parseFieldDescriptor (T k).2.2.1 = some ty ∧ hp_T T N ty0 ∧ (fin = true → (T k).1 = own)
section HPA
variable {p : Program} {l : Launch} {e : Env} {R : Room} {s : State} {m : MethodId} {args : Array Value} {below : List Frame} {meth : Method} {c : Code} {H : Heap} {locs : List Loc} {cells slots : Nat} {Q : State → Prop}
variable {cc : ByteArray} {pc : Nat} {ls : Array Slot} {rest : List Value} {X : hp_X} {cl : List vw_C} {a nx : Nat} {tys : List (ClassId × FieldType)} {μ : hp_M} {own : String} {index ci k : Nat} {fs : List Value} {v : Value}
theorem hp_get (hexec : p.tables.exec = Jvm.exec) (hb : c.code = cc) (hown : s.vm.findClass own = some m.cls) (hK : va_K X.1 cl tys s) (hH : hp_w X cl μ nx H locs) (hF : hp_F cl s args own index ci k) (hμ : μ a = some (.inr (ci, fs))) (hv : fs[k]? = some v) (hdg : decode cc pc = .ok (.getfield index, 3))
    (kk : W p l e R s m args below meth c H locs cells slots Q (F0 m (pc + 3) ls (v :: rest))) : W p l e R s m args below meth c H locs cells slots Q (F0 m pc ls (.ref a :: rest)) := by
  obtain ⟨C, T, N, ref, hc, hk, hin, hlk, hsame⟩ := hF
  obtain ⟨r, h1, cell, q1, q2, q3, q4⟩ := (hH.2.2.2.1 a _ hμ).2
  have hr : r = (C, T, N) := Option.some.inj (h1.symm.trans hc)
  subst hr
  obtain ⟨hS, hfc, kC, hkC, hkind⟩ := hK.1 ci _ hc
  obtain ⟨cf, kf, fi, f, hi, hsl⟩ := hS k hk
  have hst := (u_facts hfc hkC (u_lays hin (fun _ h => h) hk) hi).1
  have hsv : cell.slots[f.slot]? = some v := by
    rw [hsl, q4 k hk]
    simp [vp_V, hv]
  rcases hlk with hl | ⟨host, hl⟩
  · exact W.getf hexec hb hown hl (hsame _ hi) hst q1 (by rw [q3]; exact fun h => by cases h) (v := v) hsv rfl rfl hdg kk
  · exact va_Wgetf hexec hb hown hl (hsame _ hi) hst q1 (by rw [q3]; exact fun h => by cases h) (v := v) hsv rfl rfl hdg kk
theorem hp_put (hexec : p.tables.exec = Jvm.exec) (hb : c.code = cc) (hown : s.vm.findClass own = some m.cls) (hK : va_K X.1 cl tys s) (hH : hp_w X cl μ nx H locs) {ty : FieldType} (hF : hp_P cl s args own index ci k ty false) (hμ : μ a = some (.inr (ci, fs))) (hn : narrow ty v = v) (hfit : fits ty v = true) (hl : k < fs.length) (hdg : decode cc pc = .ok (.putfield index, 3))
    (kk : ∀ (H1 : Heap) (locs1 : List Loc) (μ1 : hp_M), μ1 a = some (.inr (ci, fs.set k v)) → (∀ q, q ≠ a → μ1 q = μ q) → hp_w X cl μ1 nx H1 locs1 → W p l e R s m args below meth c H1 locs1 cells slots Q (F0 m (pc + 3) ls rest)) : W p l e R s m args below meth c H locs cells slots Q (F0 m pc ls (v :: .ref a :: rest)) := by
  obtain ⟨C, T, N, ref, ty0, hc, hk, hin, hlk, hsame, hfin, hd, ⟨hty, hnm⟩, -⟩ := hF
  have hap := va_apart (own := own) hin (fun _ h => h) ty0 hty hnm hK hc
  obtain ⟨r, h1, cell, q1, q2, q3, q4⟩ := (hH.2.2.2.1 a _ hμ).2
  have hr : r = (C, T, N) := Option.some.inj (h1.symm.trans hc)
  subst hr
  obtain ⟨hS, hfc, kC, hkC, hkind⟩ := hK.1 ci _ hc
  obtain ⟨cf, kf, fi, f, hi, hsl⟩ := hS k hk
  have hlay := hin _ (u_in_lay hk)
  unfold u_lay at hlay
  rw [if_neg (by rw [hfin]; decide)] at hlay
  have hst := (u_facts hfc hkC (u_lays hin (fun _ h => h) hk) hi).1
  have h6 := u_store hfc hkC hkind hlay hi hd hn hfit
  rcases hlk with hlk | ⟨-, host, hlk⟩
  · refine W.putK hexec hb (f := f) ⟨hown, hlk, ⟨_, _, _, hsame _ hi⟩, hst⟩ (by rw [q2]; exact h6) q1 q3 (by rw [hsl]; exact k2_hasslot (q4 k hk)) rfl rfl hdg fun H' e1 e2 e3 => ?_
    rw [hsl] at e1 ⊢
    exact kk H' _ _ (hp_up_s _ _ _) (fun q h => hp_up_n h) (hH.set hμ ⟨_, hc, t_OB.to (V := updV (vp_V fs) k v) ⟨_, e1, q2, q3, t_set q4 hap hk v⟩ (fun j _ => vp_updV_set hl v j)⟩ e2 e3)
  · refine va_WputK hexec hb (f := f) hown hlk (hsame _ hi) hst (by rw [q2]; exact h6) q1 q3 (by rw [hsl]; exact k2_hasslot (q4 k hk)) rfl rfl hdg fun H' e1 e2 e3 => ?_
    rw [hsl] at e1 ⊢
    exact kk H' _ _ (hp_up_s _ _ _) (fun q h => hp_up_n h) (hH.set hμ ⟨_, hc, t_OB.to (V := updV (vp_V fs) k v) ⟨_, e1, q2, q3, t_set q4 hap hk v⟩ (fun j _ => vp_updV_set hl v j)⟩ e2 e3)
theorem hp_putF (hexec : p.tables.exec = Jvm.exec) (hb : c.code = cc) (hown : s.vm.findClass own = some m.cls) (hK : va_K X.1 cl tys s) (hH : hp_w X cl μ nx H locs) {ty : FieldType} (hF : hp_P cl s args own index ci k ty true) (hin2 : meth.name = "<init>") (hμ : μ a = some (.inr (ci, fs))) (hn : narrow ty v = v) (hfit : fits ty v = true) (hl : k < fs.length) (hdg : decode cc pc = .ok (.putfield index, 3))
    (kk : ∀ (H1 : Heap) (locs1 : List Loc) (μ1 : hp_M), μ1 a = some (.inr (ci, fs.set k v)) → (∀ q, q ≠ a → μ1 q = μ q) → hp_w X cl μ1 nx H1 locs1 → W p l e R s m args below meth c H1 locs1 cells slots Q (F0 m (pc + 3) ls rest)) : W p l e R s m args below meth c H locs cells slots Q (F0 m pc ls (v :: .ref a :: rest)) := by
  obtain ⟨C, T, N, ref, ty0, hc, hk, hin, hlk, hsame, hfin, hd, ⟨hty, hnm⟩, hdecl⟩ := hF
  have hdecl := hdecl rfl
  have hap := va_apart (own := own) hin (fun _ h => h) ty0 hty hnm hK hc
  obtain ⟨r, h1, cell, q1, q2, q3, q4⟩ := (hH.2.2.2.1 a _ hμ).2
  have hr : r = (C, T, N) := Option.some.inj (h1.symm.trans hc)
  subst hr
  obtain ⟨hS, hfc, kC, hkC, hkind⟩ := hK.1 ci _ hc
  obtain ⟨cf, kf, fi, f, hi, hsl⟩ := hS k hk
  have hlay := hin _ (u_in_lay hk)
  unfold u_lay at hlay
  rw [if_pos hfin] at hlay
  have hst := (u_facts hfc hkC (u_lays hin (fun _ h => h) hk) hi).1
  have hcf : m.cls = cf := by
    obtain ⟨_, _, c', _, _, _, -, -, hf', -, -, -, hown2, -⟩ := Cond.laysFinal_spec hlay
    have e1 : c' = cf := by have := hi.symm.trans hf'; simp at this; exact this.1.symm
    rw [hdecl] at hown2
    rw [← e1]; exact Option.some.inj (hown.symm.trans hown2)
  have h6 := u_fits hfc hkC hkind (Or.inr hlay) hi hd hn hfit
  rcases hlk with hlk | ⟨h0, -⟩
  · refine W.putFinK hexec hb hown hlk (hsame _ hi) hst hcf hin2 (by rw [q2]; exact h6) q1 q3 (by rw [hsl]; exact k2_hasslot (q4 k hk)) rfl rfl hdg fun H' e1 e2 e3 => ?_
    rw [hsl] at e1 ⊢
    exact kk H' _ _ (hp_up_s _ _ _) (fun q h => hp_up_n h) (hH.set hμ ⟨_, hc, t_OB.to (V := updV (vp_V fs) k v) ⟨_, e1, q2, q3, t_set q4 hap hk v⟩ (fun j _ => vp_updV_set hl v j)⟩ e2 e3)
  · cases h0
theorem hp_iald (hexec : p.tables.exec = Jvm.exec) (hb : c.code = cc) (hA : ArrOfT s (X.2.2.1 0) .int) (hH : hp_w X cl μ nx H locs) {n : Nat} {f : Nat → Int32} (hμ : μ a = some (hp_i X n f)) {i : Int32} (hin : vp_in i n) (hdg : decode cc pc = .ok (.iaload, 1))
    (kk : W p l e R s m args below meth c H locs cells slots Q (F0 m (pc + 1) ls (.int (f i.toNatClampNeg) :: rest))) : W p l e R s m args below meth c H locs cells slots Q (F0 m pc ls (.int i :: .ref a :: rest)) := by
  have hlt : i.toNatClampNeg < n := Nat.not_le.mp fun q => hin (Or.inr q)
  exact W.iald (v := .int (f i.toNatClampNeg)) hexec hb (hH.2.2.2.1 a _ hμ).2 (hA n (fun j => .int (f j))) (fun q => by cases q) (by show ¬ (i < 0 ∨ (arrV _ _ _).slots.size ≤ _); rw [arrV_size]; exact hin) (by show (arrV _ _ _).slots[_]? = _; rw [arrV_read _ _ hlt]) rfl rfl hdg kk
theorem hp_lald (hexec : p.tables.exec = Jvm.exec) (hb : c.code = cc) (hA : ArrOfT s (X.2.2.1 1) .long) (hH : hp_w X cl μ nx H locs) {n : Nat} {f : Nat → Int64} (hμ : μ a = some (hp_l X n f)) {i : Int32} (hin : vp_in i n) (hdg : decode cc pc = .ok (.laload, 1))
    (kk : W p l e R s m args below meth c H locs cells slots Q (F0 m (pc + 1) ls (.long (f i.toNatClampNeg) :: rest))) : W p l e R s m args below meth c H locs cells slots Q (F0 m pc ls (.int i :: .ref a :: rest)) := by
  have hlt : i.toNatClampNeg < n := Nat.not_le.mp fun q => hin (Or.inr q)
  exact W.lald (v := .long (f i.toNatClampNeg)) hexec hb (hH.2.2.2.1 a _ hμ).2 (hA n (fun j => .long (f j))) (fun q => by cases q) (by show ¬ (i < 0 ∨ (arrV _ _ _).slots.size ≤ _); rw [arrV_size]; exact hin) (by show (arrV _ _ _).slots[_]? = _; rw [arrV_read _ _ hlt]) rfl rfl hdg kk
theorem hp_aald (hexec : p.tables.exec = Jvm.exec) (hb : c.code = cc) {C : String} (hA : ArrOfT s (X.2.2.1 2) (.object C)) (hH : hp_w X cl μ nx H locs) {n : Nat} {f : Nat → Option Nat} (hμ : μ a = some (hp_q X n f)) {i : Int32} (hin : vp_in i n) (hdg : decode cc pc = .ok (.aaload, 1))
    (kk : W p l e R s m args below meth c H locs cells slots Q (F0 m (pc + 1) ls (va_rf (f i.toNatClampNeg) :: rest))) : W p l e R s m args below meth c H locs cells slots Q (F0 m pc ls (.int i :: .ref a :: rest)) := by
  have hlt : i.toNatClampNeg < n := Nat.not_le.mp fun q => hin (Or.inr q)
  exact W.aald (v := va_rf (f i.toNatClampNeg)) (ty := .object C) hexec hb (hH.2.2.2.1 a _ hμ).2 (hA n (fun j => va_rf (f j))) rfl (fun q => by cases q) (by show ¬ (i < 0 ∨ (arrV _ _ _).slots.size ≤ _); rw [arrV_size]; exact hin) (by show (arrV _ _ _).slots[_]? = _; rw [arrV_read _ _ hlt]) rfl rfl hdg kk
theorem hp_iast (hexec : p.tables.exec = Jvm.exec) (hb : c.code = cc) (hA : ArrOfT s (X.2.2.1 0) .int) (hH : hp_w X cl μ nx H locs) {n : Nat} {f : Nat → Int32} (hμ : μ a = some (hp_i X n f)) {i x : Int32} (hin : vp_in i n) (hdg : decode cc pc = .ok (.iastore, 1))
    (kk : ∀ (H1 : Heap) (locs1 : List Loc) (μ1 : hp_M), μ1 a = some (hp_i X n (upd f i.toNatClampNeg x)) → (∀ q, q ≠ a → μ1 q = μ q) → hp_w X cl μ1 nx H1 locs1 → W p l e R s m args below meth c H1 locs1 cells slots Q (F0 m (pc + 1) ls rest)) : W p l e R s m args below meth c H locs cells slots Q (F0 m pc ls (.int x :: .int i :: .ref a :: rest)) := by
  refine W.iast hexec hb (hH.2.2.2.1 a _ hμ).2 (hA n (fun j => .int (f j))) (fun q => by cases q) (by show ¬ (i < 0 ∨ (arrV _ _ _).slots.size ≤ _); rw [arrV_size]; exact hin) rfl rfl hdg fun H1 e z oq => ?_
  refine kk H1 _ _ (hp_up_s _ _ _) (fun q h => hp_up_n h) (hH.set hμ ?_ z oq)
  show H1[a]? = some (vp_cell _ _)
  rw [e]
  rw [vp_cell_i, vp_cell_i, arrV_store]
  congr 2
  funext q
  by_cases hq : q = i.toNatClampNeg
  · subst hq
    simp [updV, upd]
  · simp [updV, upd, hq]
theorem hp_last (hexec : p.tables.exec = Jvm.exec) (hb : c.code = cc) (hA : ArrOfT s (X.2.2.1 1) .long) (hH : hp_w X cl μ nx H locs) {n : Nat} {f : Nat → Int64} (hμ : μ a = some (hp_l X n f)) {i : Int32} {x : Int64} (hin : vp_in i n) (hdg : decode cc pc = .ok (.lastore, 1))
    (kk : ∀ (H1 : Heap) (locs1 : List Loc) (μ1 : hp_M), μ1 a = some (hp_l X n (vp_updL f i.toNatClampNeg x)) → (∀ q, q ≠ a → μ1 q = μ q) → hp_w X cl μ1 nx H1 locs1 → W p l e R s m args below meth c H1 locs1 cells slots Q (F0 m (pc + 1) ls rest)) : W p l e R s m args below meth c H locs cells slots Q (F0 m pc ls (.long x :: .int i :: .ref a :: rest)) := by
  refine W.last hexec hb (hH.2.2.2.1 a _ hμ).2 (hA n (fun j => .long (f j))) (fun q => by cases q) (by show ¬ (i < 0 ∨ (arrV _ _ _).slots.size ≤ _); rw [arrV_size]; exact hin) rfl rfl hdg fun H1 e z oq => ?_
  refine kk H1 _ _ (hp_up_s _ _ _) (fun q h => hp_up_n h) (hH.set hμ ?_ z oq)
  show H1[a]? = some (vp_cell _ _)
  rw [e]
  rw [vp_cell_l, vp_cell_l, arrV_store]
  congr 2
  funext q
  by_cases hq : q = i.toNatClampNeg
  · subst hq
    simp [updV, vp_updL]
  · simp [updV, vp_updL, hq]
theorem hp_alen (hexec : p.tables.exec = Jvm.exec) (hb : c.code = cc) {cA : ClassId} {ty : FieldType} (hA : ArrOfT s cA ty) (hH : hp_w X cl μ nx H locs) {x : vp_A} (hμ : μ a = some (.inl (cA, x))) {w : Int32} (hv : nI x.1 = w) (hdg : decode cc pc = .ok (.arraylength, 1))
    (kk : W p l e R s m args below meth c H locs cells slots Q (F0 m (pc + 1) ls (.int w :: rest))) : W p l e R s m args below meth c H locs cells slots Q (F0 m pc ls (.ref a :: rest)) := by
  subst hv
  have hc := (hH.2.2.2.1 a _ hμ).2
  obtain ⟨n, f | f | f | f | f⟩ := x
  · exact W.alen (n := Int32.ofNat n) hexec hb hc (hA n (fun j => .int (f j))) (by rw [vp_cell_i, arrV_size] <;> rfl) rfl rfl hdg kk
  · exact W.alen (n := Int32.ofNat n) hexec hb hc (hA n (fun j => .long (f j))) (by rw [vp_cell_l, arrV_size] <;> rfl) rfl rfl hdg kk
  · exact W.alen (n := Int32.ofNat n) hexec hb hc (hA n (fun j => .float (f j))) (by rw [vp_cell_f, arrV_size] <;> rfl) rfl rfl hdg kk
  · exact W.alen (n := Int32.ofNat n) hexec hb hc (hA n (fun j => .double (f j))) (by rw [vp_cell_d, arrV_size] <;> rfl) rfl rfl hdg kk
  · exact W.alen (n := Int32.ofNat n) hexec hb hc (hA n (fun j => va_rf (f j))) (by rw [vp_cell_q, arrV_size] <;> rfl) rfl rfl hdg kk
/-- a new int or long array -/
theorem hp_newi (hexec : p.tables.exec = Jvm.exec) (hb : c.code = cc) (harr : (Cond.arrayClass .int).before args s = true) (hR : s.vm.findClass "[I" = some (X.2.2.1 0)) (hH : hp_w X cl μ nx H locs) {n : Int32} {N : Nat} (hn : ¬ n < 0) (hN : n.toNatClampNeg = N) (hbytes : N * 4 ≤ 536870912) (hcells : cells + 1 ≤ R.cells) (hslots : slots + N ≤ R.slots) (hdg : decode cc pc = .ok (.newarray .int, 2))
    (kk : ∀ (H1 : Heap) (μ1 : hp_M), μ1 nx = some (hp_i X N (fun _ => 0)) → (∀ q, q ≠ nx → μ1 q = μ q) → hp_w X cl μ1 (nx + 1) H1 locs → W p l e R s m args below meth c H1 locs (cells + 1) (slots + N) Q (F0 m (pc + 2) ls (.ref nx :: rest))) : W p l e R s m args below meth c H locs cells slots Q (F0 m pc ls (.int n :: rest)) := by
  refine va_newaK (atype := .int) hexec hb harr rfl hdg rfl hn hN hbytes hcells hslots hH.1 fun H1 cA e1 z1 o1 hAr hNm => ?_
  have hcA : cA = X.2.2.1 0 := Option.some.inj (hNm.symm.trans hR)
  subst hcA
  exact kk H1 _ (hp_up_s _ _ _) (fun q h => hp_up_n h) (hH.push (show H1[nx]? = some (vp_cell _ _) from e1) z1 o1)
theorem hp_newl (hexec : p.tables.exec = Jvm.exec) (hb : c.code = cc) (harr : (Cond.arrayClass .long).before args s = true) (hR : s.vm.findClass "[J" = some (X.2.2.1 1)) (hH : hp_w X cl μ nx H locs) {n : Int32} {N : Nat} (hn : ¬ n < 0) (hN : n.toNatClampNeg = N) (hbytes : N * 8 ≤ 536870912) (hcells : cells + 1 ≤ R.cells) (hslots : slots + N ≤ R.slots) (hdg : decode cc pc = .ok (.newarray .long, 2))
    (kk : ∀ (H1 : Heap) (μ1 : hp_M), μ1 nx = some (hp_l X N (fun _ => 0)) → (∀ q, q ≠ nx → μ1 q = μ q) → hp_w X cl μ1 (nx + 1) H1 locs → W p l e R s m args below meth c H1 locs (cells + 1) (slots + N) Q (F0 m (pc + 2) ls (.ref nx :: rest))) : W p l e R s m args below meth c H locs cells slots Q (F0 m pc ls (.int n :: rest)) := by
  refine va_newaK (atype := .long) hexec hb harr rfl hdg rfl hn hN hbytes hcells hslots hH.1 fun H1 cA e1 z1 o1 hAr hNm => ?_
  have hcA : cA = X.2.2.1 1 := Option.some.inj (hNm.symm.trans hR)
  subst hcA
  exact kk H1 _ (hp_up_s _ _ _) (fun q h => hp_up_n h) (hH.push (show H1[nx]? = some (vp_cell _ _) from e1) z1 o1)
/-- a new object -/
def hp_N (cl : List vw_C) (s : State) (args : Array Value) (own : String) (index ci N : Nat) (fs : List Value) : Prop :=
  ∃ (C : String) (T : u_T) (ty : Nat → FieldType), cl[ci]? = some (C, T, N) ∧ (∀ w ∈ u_ws C T N, w.before args s = true) ∧ (∀ k, k < N → parseFieldDescriptor (T k).2.2.1 = some (ty k)) ∧ (Cond.classLink own index C).before args s = true ∧ (Cond.instantiable C N).before args s = true ∧ (Cond.initialized C).before args s = true ∧ ∀ j, j < N → defaultValue (ty j) = vp_V fs j
theorem hp_new (hexec : p.tables.exec = Jvm.exec) (hb : c.code = cc) (hown : s.vm.findClass own = some m.cls) (hK : va_K X.1 cl tys s) (hH : hp_w X cl μ nx H locs) {N : Nat} (hN : hp_N cl s args own index ci N fs) (hcells : cells + 1 ≤ R.cells) (hslots : slots + N ≤ R.slots) (hdg : decode cc pc = .ok (.new index, 3))
    (kk : ∀ (H1 : Heap) (μ1 : hp_M), μ1 nx = some (.inr (ci, fs)) → (∀ q, q ≠ nx → μ1 q = μ q) → hp_w X cl μ1 (nx + 1) H1 locs → W p l e R s m args below meth c H1 locs (cells + 1) (slots + N) Q (F0 m (pc + 3) ls (.ref nx :: rest))) : W p l e R s m args below meth c H locs cells slots Q (F0 m pc ls rest) := by
  obtain ⟨C, T, ty, hc, hin, hty, hcl, hinst, hini, hfs⟩ := hN
  have hKn := hK.1 ci _ hc
  refine W.newcK hexec hb hown hcl hinst hini rfl hdg hcells hslots hKn.2.1 hH.1 fun H1 kC hkC e1 z1 o1 => ?_
  exact kk H1 _ (hp_up_s _ _ _) (fun q h => hp_up_n h) (hH.push ⟨_, hc, (u_born ty hin (fun _ h => h) hKn hkC e1 hty).to hfs⟩ z1 o1)
/-- who receives a call -/
theorem hp_recv (hK : va_K X.1 cl tys s) (hH : hp_w X cl μ nx H locs) {q : vw_C} (hc : cl[ci]? = some q) (hμ : μ a = some (.inr (ci, fs))) : ∃ cell : Cell, H[a]? = some cell ∧ cell.vm.isStatics = false ∧ s.vm.findClass q.1 = some cell.cls := by
  obtain ⟨q', h1, cell, g1, g2, g3, -⟩ := (hH.2.2.2.1 a _ hμ).2
  exact ⟨cell, g1, by rw [g3]; rfl, by rw [g2]; exact (hK.1 ci q hc).2.1⟩
end HPA
end
section
/-! the tables' words at every state of a run; what the statics hold; contracts over my heap words -/
def kw_ok (w : Cond) : Bool := goodWord w || (match w with
  | .fieldLinkNest .. => true
  | .methodLinkNest .. => true
  | .castable .. => true
  | .declares .. => true
  | .arrayOver (.object _) => true
  | _ => false)
def tb : List Cond := lw_tbl.filter kw_ok
theorem tb_of {w : Cond} (h : w ∈ lw_tbl) (hk : kw_ok w = true) : w ∈ tb := List.mem_filter.mpr ⟨h, hk⟩
def kw (U : State) : Prop := ∀ w ∈ tb, ∀ A : Array Value, w.before A U = true
theorem kw_move {w : Cond} (hk : kw_ok w = true) {s U : State} (hW : s.WarmedH U.vm) {a : Array Value} (h : w.before a s = true) (A : Array Value) : w.before A U = true := by
  unfold kw_ok at hk
  rw [Bool.or_eq_true] at hk
  rcases hk with hk | hk
  · exact word_at hW (good_of_word hk) h
  · cases w with
    | fieldLinkNest a1 i b n d hh => exact va_Nw.use rfl (va_Nw.warmF hW (va_Nw.of rfl h))
    | methodLinkNest a1 i x hh => exact va_Nw.use rfl (va_Nw.warmM hW (va_Nw.of rfl h))
    | castable C T => exact va_Nw.use rfl (va_Nw.warmC hW (va_Nw.of rfl h))
    | declares x => exact va_Nw.use rfl (va_Nw.warmD hW (va_Nw.of rfl h))
    | arrayOver ty =>
      cases ty with
      | object C => exact va_AO.use (va_AO.moved hW.alike (va_AO.of h))
      | _ => first | cases hk | simp at hk
    | _ => first | cases hk | simp at hk
theorem kw.warm {s U : State} (h : kw s) (hW : s.WarmedH U.vm) : kw U := fun w hw A => kw_move (List.mem_filter.mp hw).2 hW (h w hw #[]) A
theorem kw.of {s : State} {a : Array Value} (h : ∀ w ∈ lw_tbl, w.before a s = true) : kw s := fun w hw A => kw_move (List.mem_filter.mp hw).2 (State.WarmedH.refl s) (h w (List.mem_filter.mp hw).1) A
abbrev hp_A (X : hp_X) : Nat → Prop := fun q => X.2.1.size ≤ q
def nmK : List String := ["BAD", "REQUEST", "WAKE", "SEARCH", "CHOOSE", "HALT", "ACTIVATE", "RELEASE"]
def nmR : List String := ["NOTHING", "A", "REST", "B_MORE", "B_LAST", "C", "D"]
def fdR : List (String × String × String × List Int32) := [("java/lang/Enum", "ordinal", "I", [0, 1, 2, 3, 4, 5, 6])]
abbrev hp_ty (X : hp_X) : List (ClassId × FieldType) := [(X.2.2.1 0, .int), (X.2.2.1 1, .long), (X.2.2.1 2, .object "java/lang/Object"), (X.2.2.1 3, .boolean)]
def KS (X : hp_X) (U : State) : Prop :=
  kw U ∧ va_K X.1 cls (hp_ty X) U ∧ va_En RX5 "LTagField$Kind;" nmK [] (fun i => X.2.2.2 i) (hp_A X) U X.2.1 ∧ va_En RX7 "LTagField$Reply;" nmR fdR (fun i => X.2.2.2 (8 + i)) (hp_A X) U X.2.1 ∧
  va_Z RX0 "$SwitchMap$TagField$Reply" "[I" (.ref (X.2.2.2 15)) (hp_A X) U X.2.1 ∧ va_T .int (X.2.2.2 15) 7 (fun j => .int (nI j)) (hp_A X) U X.2.1 ∧
  va_Z RJx4a65c "DEFAULTCAPACITY_EMPTY_ELEMENTDATA" "[Ljava/lang/Object;" (.ref (X.2.2.2 16)) (hp_A X) U X.2.1 ∧ va_T (.object "java/lang/Object") (X.2.2.2 16) 0 (fun _ => .null) (hp_A X) U X.2.1
theorem KS.warm {X : hp_X} {s U : State} (h : KS X s) (hW : s.WarmedH U.vm) : KS X U := by
  obtain ⟨h1, h2, h3, h4, h5, h6, h7, h8⟩ := h
  exact ⟨h1.warm hW, va_K.moved hW.alike h2, va_En.moved hW.alike h3, va_En.moved hW.alike h4, va_Z.moved hW.alike h5, va_T.moved hW.alike h6, va_Z.moved hW.alike h7, va_T.moved hW.alike h8⟩
theorem KS.ai {X : hp_X} {s : State} (h : KS X s) : ArrOfT s (X.2.2.1 0) .int := (h.2.1.2 0 _ rfl).1
theorem KS.al {X : hp_X} {s : State} (h : KS X s) : ArrOfT s (X.2.2.1 1) .long := (h.2.1.2 1 _ rfl).1
theorem KS.aq {X : hp_X} {s : State} (h : KS X s) : ArrOfT s (X.2.2.1 2) (.object "java/lang/Object") := (h.2.1.2 2 _ rfl).1
theorem KS.ab {X : hp_X} {s : State} (h : KS X s) : ArrOfT s (X.2.2.1 3) .boolean := (h.2.1.2 3 _ rfl).1
theorem KS.ni {X : hp_X} {s : State} (h : KS X s) : s.vm.findClass "[I" = some (X.2.2.1 0) := (h.2.1.2 0 _ rfl).2
theorem KS.nl {X : hp_X} {s : State} (h : KS X s) : s.vm.findClass "[J" = some (X.2.2.1 1) := (h.2.1.2 1 _ rfl).2
theorem KS.nb {X : hp_X} {s : State} (h : KS X s) : s.vm.findClass "[Z" = some (X.2.2.1 3) := (h.2.1.2 3 _ rfl).2
/-- the world of a state -/
def hp_Wd (X : hp_X) (μ : hp_M) (nx : Nat) (U : State) : Prop := KS X U ∧ hp_w X cls μ nx U.heap []
theorem hp_w.drop {X : hp_X} {μ : hp_M} {nx : Nat} {H : Heap} {locs : List Loc} (h : hp_w X cls μ nx H locs) : hp_w X cls μ nx H [] := ⟨h.1, h.2.1, h.2.2.1, h.2.2.2.1, fun _ q => by cases q⟩
/-- a contract -/
abbrev Ct (l : Launch) (X : hp_X) (y : MethodName) (cc : ByteArray) (maxL : Nat) (ret : Option FieldType) (fr lo mc ms : Nat) (av : List Value) (μ : hp_M) (nx : Nat) (Qc : Array Value → State → Outcome → State → Prop) : Prop :=
  Met l y [Cond.code y cc maxL ret] { frames := fr, cells := mc, slots := ms, locals := lo } (va_Pc av (hp_Wd X μ nx)) Qc mc ms (hp_A X)
def hq_i (X : hp_X) (post : Int32 → hp_M → Nat → Prop) : Array Value → State → Outcome → State → Prop := fun _ _ oc t => ∃ (r : Int32) (μ : hp_M) (nx : Nat), oc = .returned (some (.int r)) ∧ post r μ nx ∧ hp_Wd X μ nx t
def hq_l (X : hp_X) (post : Int64 → hp_M → Nat → Prop) : Array Value → State → Outcome → State → Prop := fun _ _ oc t => ∃ (r : Int64) (μ : hp_M) (nx : Nat), oc = .returned (some (.long r)) ∧ post r μ nx ∧ hp_Wd X μ nx t
def hq_r (X : hp_X) (post : Nat → hp_M → Nat → Prop) : Array Value → State → Outcome → State → Prop := fun _ _ oc t => ∃ (r : Nat) (μ : hp_M) (nx : Nat), oc = .returned (some (.ref r)) ∧ post r μ nx ∧ hp_Wd X μ nx t
def hq_v (X : hp_X) (post : hp_M → Nat → Prop) : Array Value → State → Outcome → State → Prop := fun _ _ oc t => ∃ (μ : hp_M) (nx : Nat), oc = .returned none ∧ post μ nx ∧ hp_Wd X μ nx t
theorem hp_met {l : Launch} {X : hp_X} {y : MethodName} {cc : ByteArray} {maxL : Nat} {ret : Option FieldType} {fr lo mc ms : Nat} {av : List Value} {μ : hp_M} {nx : Nat} {Qc : Array Value → State → Outcome → State → Prop} (hy : plainName y.cls = true) (hn : (lg_sl av).length ≤ maxL)
    (body : ∀ (p : Program) (e : Env) (s : State) (m : MethodId) (below : List Frame) (meth : Method) (c : Code) (ls : Array Slot), p.tables.exec = Jvm.exec → c.code = cc → c.maxLocals = maxL → meth.sig.returnType = ret → meth.locks = false → s.vm.findClass y.cls = some m.cls → meth.name = y.name → KS X s → hp_w X cls μ nx s.heap [] → lv_has ls maxL (lv_args 0 av) →
      W p l e { frames := fr, cells := mc, slots := ms, locals := lo } s m av.toArray below meth c s.heap [] 0 0 (MQ below Qc av.toArray s mc ms (hp_A X)) (F0 m 0 ls [])) : Ct l X y cc maxL ret fr lo mc ms av μ nx Qc := by
  refine Met.ofW (cc := cc) (maxL := maxL) (ret := ret) hy rfl ?_
  intro p e s m args below meth c s₁ B hml hv
  obtain ⟨rfl, hS, hH⟩ := hv
  have hl := lv_entry av (n := maxL) hn
  rw [lg_entry_eq]
  exact body p e s m below meth c _ B.exec B.bytes hml B.returns B.notSynchronized (findClass_of_methodNamed B.named) (name_of_methodNamed B.named B.method).1 hS hH hl
/-- what a call links -/
def mV (own : String) (index : Nat) (y : MethodName) (bytes : ByteArray) (maxL : Nat) (ret : Option FieldType) (n : Nat) : Prop :=
  Cond.code y bytes maxL ret ∈ tb ∧ Cond.initialized y.cls ∈ tb ∧ (y.cls ≠ "java/lang/invoke/MethodHandle" ∧ y.cls ≠ "java/lang/invoke/VarHandle") ∧ (parseMethodDescriptor y.desc).map (fun d => d.parameters.length) = some n ∧ (Cond.methodLink own index y ∈ tb ∨ ∃ host : String, Cond.methodLinkNest own index y host ∈ tb)
theorem mV.len {own : String} {index : Nat} {y : MethodName} {bytes : ByteArray} {maxL n : Nat} {ret : Option FieldType} (h : mV own index y bytes maxL ret n) : ∀ sig, parseMethodDescriptor y.desc = some sig → n = sig.parameters.length := by
  intro sig hs
  have h2 := h.2.2.2.1
  rw [hs] at h2
  exact (Option.some.inj h2).symm
section HPC
variable {p : Program} {l : Launch} {e : Env} {R : Room} {s : State} {m : MethodId} {args : Array Value} {below : List Frame} {meth : Method} {c : Code} {H : Heap} {locs : List Loc} {cells slots : Nat} {Q : State → Prop}
variable {cc : ByteArray} {pc : Nat} {ls : Array Slot} {rest st0 As : List Value} {X : hp_X} {b nx nL : Nat} {μ : hp_M} {own : String} {index n : Nat} {y : MethodName} {bytes : ByteArray} {maxL fr lo mc ms : Nat} {ret : Option FieldType} {Qc : Array Value → State → Outcome → State → Prop}
theorem hp_blind {av : List Value} : FrameBlind (va_Pc av (hp_Wd X μ nx)) := fun a U g mk q => ⟨q.1, q.2.1.warm (State.WarmedH.refl U), q.2.2⟩
theorem hp_pre {av : List Value} (hS : KS X s) (hH : hp_w X cls μ nx H locs) : PreS s H (va_Pc av (hp_Wd X μ nx)) av := ⟨hp_blind, fun U hU hW => ⟨rfl, hS.warm hW, by rw [hU]; exact hH.drop⟩⟩
theorem hp_words (hS : KS X s) (hk : Cond.code y bytes maxL ret ∈ tb) : ∀ w ∈ [Cond.code y bytes maxL ret], ∀ (a' : Array Value) (U : State), s.WarmedH U.vm → w.before a' U = true := by
  intro w hw a' U hW
  rw [List.mem_singleton.mp hw]
  exact hS.1.warm hW _ hk a'
theorem hp_runV (hx : p.tables.exec = Jvm.exec) (hb : c.code = cc) (hml : c.maxLocals = nL) (hown : s.vm.findClass own = some m.cls) (hS : KS X s) (hH : hp_w X cls μ nx H locs) (hM : Ct l X y bytes maxL ret fr lo mc ms (.ref b :: As) μ nx Qc) (hk : mV own index y bytes maxL ret n) (hin : Cond.instanceMethod y ∈ tb) (hse : Cond.selects y.cls y y ∈ tb) {ci : Nat} {q : vw_C} (hc : cls[ci]? = some q) (hq : q.1 = y.cls) {fs : List Value} (hμ : μ b = some (.inr (ci, fs))) (hn : As.length = n) (hsz : ls.size = nL) (hst : st0 = As.reverse ++ .ref b :: rest) (hroom : (rest.map fun v => v.category).sum ≤ 8) (hdg : decode cc pc = .ok (.invokevirtual index, 3)) (hR : fr + 1 ≤ R.frames ∧ 8 + (maxL + 11) + lo ≤ R.locals) (hf : cells + mc ≤ R.cells ∧ slots + ms ≤ R.slots) :
    va_Run p l e R s m args below meth c H locs cells slots mc ms (F0 m pc ls st0) rest (Qc (Value.ref b :: As).toArray) (hp_A X) := by
  have hp : PreV s H y.cls b (va_Pc (.ref b :: As) (hp_Wd X μ nx)) As := ⟨hp_blind, by rw [← hq]; exact hp_recv hS.2.1 hH hc hμ, (hp_pre hS hH).2⟩
  have ok : ∀ {w : Cond}, w ∈ tb → w.before args s = true := fun h => hS.1 _ h args
  rcases hk.2.2.2.2 with hl | ⟨host, hl⟩
  · exact va_runV (Ts := tb) (C := y.cls) ⟨hx, hb, hml, hown, fun w h => hS.1 w h args⟩ hM ⟨⟨rfl, rfl, hR.1, hR.2, hp_words hS hk.1, List.mem_singleton.mpr rfl, ok hk.1, ok hk.2.1, hk.2.2.1, hk.len, ok hl⟩, ok hin, ok hse⟩ hp rfl hn hsz hst (lv_room hroom) hdg hf
  · exact va_runVN (Ts := tb) (C := y.cls) (host := host) ⟨hx, hb, hml, hown, fun w h => hS.1 w h args⟩ hM ⟨⟨⟨rfl, rfl, hR.1, hR.2, hp_words hS hk.1, List.mem_singleton.mpr rfl⟩, ok hk.1, ok hk.2.1, hk.2.2.1, hk.len, ok hl⟩, ok hin, ok hse⟩ hp rfl hn hsz hst (lv_room hroom) hdg hf
theorem hp_runS (hx : p.tables.exec = Jvm.exec) (hb : c.code = cc) (hml : c.maxLocals = nL) (hown : s.vm.findClass own = some m.cls) (hS : KS X s) (hH : hp_w X cls μ nx H locs) (hM : Ct l X y bytes maxL ret fr lo mc ms As μ nx Qc) (hk : mV own index y bytes maxL ret n) (hin : Cond.static y ∈ tb) (hn : As.length = n) (hsz : ls.size = nL) (hst : st0 = As.reverse ++ rest) (hroom : (rest.map fun v => v.category).sum ≤ 8) (hdg : decode cc pc = .ok (.invokestatic index, 3)) (hR : fr + 1 ≤ R.frames ∧ 8 + (maxL + 11) + lo ≤ R.locals) (hf : cells + mc ≤ R.cells ∧ slots + ms ≤ R.slots) :
    va_Run p l e R s m args below meth c H locs cells slots mc ms (F0 m pc ls st0) rest (Qc As.toArray) (hp_A X) := by
  have ok : ∀ {w : Cond}, w ∈ tb → w.before args s = true := fun h => hS.1 _ h args
  rcases hk.2.2.2.2 with hl | ⟨host, hl⟩
  · exact va_runS (Ts := tb) ⟨hx, hb, hml, hown, fun w h => hS.1 w h args⟩ hM ⟨⟨rfl, rfl, hR.1, hR.2, hp_words hS hk.1, List.mem_singleton.mpr rfl, ok hk.1, ok hk.2.1, hk.2.2.1, hk.len, ok hl⟩, ok hin⟩ (hp_pre hS hH) rfl hn hsz hst (lv_room hroom) hdg hf
  · exact va_runSN (Ts := tb) (host := host) ⟨hx, hb, hml, hown, fun w h => hS.1 w h args⟩ hM ⟨⟨⟨rfl, rfl, hR.1, hR.2, hp_words hS hk.1, List.mem_singleton.mpr rfl⟩, ok hk.1, ok hk.2.1, hk.2.2.1, hk.len, ok hl⟩, ok hin, trivial⟩ (hp_pre hS hH) rfl hn hsz hst (lv_room hroom) hdg hf
theorem hp_runI (hx : p.tables.exec = Jvm.exec) (hb : c.code = cc) (hml : c.maxLocals = nL) (hown : s.vm.findClass own = some m.cls) (hS : KS X s) (hH : hp_w X cls μ nx H locs) (hM : Ct l X y bytes maxL none fr lo mc ms (.ref b :: As) μ nx Qc) (hk : mV own index y bytes maxL none n) (hin : Cond.instanceMethod y ∈ tb) (hy1 : y.name = "<init>") (hn : As.length = n) (hsz : ls.size = nL) (hst : st0 = As.reverse ++ .ref b :: rest) (hroom : (rest.map fun v => v.category).sum ≤ 8) (hdg : decode cc pc = .ok (.invokespecial index, 3)) (hR : fr + 1 ≤ R.frames ∧ 8 + (maxL + 11) + lo ≤ R.locals) (hf : cells + mc ≤ R.cells ∧ slots + ms ≤ R.slots) :
    va_Run p l e R s m args below meth c H locs cells slots mc ms (F0 m pc ls st0) rest (Qc (Value.ref b :: As).toArray) (hp_A X) := by
  have ok : ∀ {w : Cond}, w ∈ tb → w.before args s = true := fun h => hS.1 _ h args
  rcases hk.2.2.2.2 with hl | ⟨host, hl⟩
  · exact va_runI (Ts := tb) ⟨hx, hb, hml, hown, fun w h => hS.1 w h args⟩ hM ⟨⟨rfl, rfl, hR.1, hR.2, hp_words hS hk.1, List.mem_singleton.mpr rfl, ok hk.1, ok hk.2.1, hk.2.2.1, hk.len, ok hl⟩, hy1, ok hin⟩ (hp_pre hS hH) rfl hn hsz hst (lv_room hroom) hdg hf
  · exact va_runIN (Ts := tb) (host := host) ⟨hx, hb, hml, hown, fun w h => hS.1 w h args⟩ hM ⟨⟨⟨rfl, rfl, hR.1, hR.2, hp_words hS hk.1, List.mem_singleton.mpr rfl⟩, ok hk.1, ok hk.2.1, hk.2.2.1, hk.len, ok hl⟩, hy1, ok hin⟩ (hp_pre hS hH) rfl hn hsz hst (lv_room hroom) hdg hf
variable {a : Array Value}
theorem hp_back {μ1 : hp_M} {nx1 : Nat} {t T' : State} {L : List Loc} (hH : hp_w X cls μ nx H locs) (hL : ∀ q ∈ L, hp_A X q.base) (e1 : T'.heap = t.heap) (h1 : hp_Wd X μ1 nx1 t) : hp_w X cls μ1 nx1 T'.heap (locs ++ L) := by
  rw [e1]
  refine ⟨h1.2.1, h1.2.2.1, h1.2.2.2.1, h1.2.2.2.2.1, fun q hq => ?_⟩
  rcases List.mem_append.mp hq with h | h
  · exact hH.2.2.2.2 q h
  · exact hL q h
theorem hp_ki {post : Int32 → hp_M → Nat → Prop} (hr : va_Run p l e R s m args below meth c H locs cells slots mc ms (F0 m pc ls st0) rest (hq_i X post a) (hp_A X)) (hH : hp_w X cls μ nx H locs)
    (kk : ∀ (r : Int32) (μ1 : hp_M) (nx1 : Nat) (H1 : Heap) (locs1 : List Loc), post r μ1 nx1 → hp_w X cls μ1 nx1 H1 locs1 → W p l e R s m args below meth c H1 locs1 (cells + mc) (slots + ms) Q (F0 m (pc + 3) ls (.int r :: rest))) : W p l e R s m args below meth c H locs cells slots Q (F0 m pc ls st0) := by
  intro T hT X0
  obtain ⟨v, st₀, t, T', L, h0, X', hL, e1, e2, ⟨r, μ1, nx1, hv, hp, hw⟩, st⟩ := hr T hT X0
  cases hv
  obtain ⟨t2, a1, b1⟩ := kk r μ1 nx1 T'.heap (locs ++ L) hp (hp_back hH hL e1 hw) T' rfl X'
  exact ⟨t2, st t2 a1, b1⟩
theorem hp_kl {post : Int64 → hp_M → Nat → Prop} (hr : va_Run p l e R s m args below meth c H locs cells slots mc ms (F0 m pc ls st0) rest (hq_l X post a) (hp_A X)) (hH : hp_w X cls μ nx H locs)
    (kk : ∀ (r : Int64) (μ1 : hp_M) (nx1 : Nat) (H1 : Heap) (locs1 : List Loc), post r μ1 nx1 → hp_w X cls μ1 nx1 H1 locs1 → W p l e R s m args below meth c H1 locs1 (cells + mc) (slots + ms) Q (F0 m (pc + 3) ls (.long r :: rest))) : W p l e R s m args below meth c H locs cells slots Q (F0 m pc ls st0) := by
  intro T hT X0
  obtain ⟨v, st₀, t, T', L, h0, X', hL, e1, e2, ⟨r, μ1, nx1, hv, hp, hw⟩, st⟩ := hr T hT X0
  cases hv
  obtain ⟨t2, a1, b1⟩ := kk r μ1 nx1 T'.heap (locs ++ L) hp (hp_back hH hL e1 hw) T' rfl X'
  exact ⟨t2, st t2 a1, b1⟩
theorem hp_kr {post : Nat → hp_M → Nat → Prop} (hr : va_Run p l e R s m args below meth c H locs cells slots mc ms (F0 m pc ls st0) rest (hq_r X post a) (hp_A X)) (hH : hp_w X cls μ nx H locs)
    (kk : ∀ (r : Nat) (μ1 : hp_M) (nx1 : Nat) (H1 : Heap) (locs1 : List Loc), post r μ1 nx1 → hp_w X cls μ1 nx1 H1 locs1 → W p l e R s m args below meth c H1 locs1 (cells + mc) (slots + ms) Q (F0 m (pc + 3) ls (.ref r :: rest))) : W p l e R s m args below meth c H locs cells slots Q (F0 m pc ls st0) := by
  intro T hT X0
  obtain ⟨v, st₀, t, T', L, h0, X', hL, e1, e2, ⟨r, μ1, nx1, hv, hp, hw⟩, st⟩ := hr T hT X0
  cases hv
  obtain ⟨t2, a1, b1⟩ := kk r μ1 nx1 T'.heap (locs ++ L) hp (hp_back hH hL e1 hw) T' rfl X'
  exact ⟨t2, st t2 a1, b1⟩
theorem hp_kv {post : hp_M → Nat → Prop} (hr : va_Run p l e R s m args below meth c H locs cells slots mc ms (F0 m pc ls st0) rest (hq_v X post a) (hp_A X)) (hH : hp_w X cls μ nx H locs)
    (kk : ∀ (μ1 : hp_M) (nx1 : Nat) (H1 : Heap) (locs1 : List Loc), post μ1 nx1 → hp_w X cls μ1 nx1 H1 locs1 → W p l e R s m args below meth c H1 locs1 (cells + mc) (slots + ms) Q (F0 m (pc + 3) ls rest)) : W p l e R s m args below meth c H locs cells slots Q (F0 m pc ls st0) := by
  intro T hT X0
  obtain ⟨v, st₀, t, T', L, h0, X', hL, e1, e2, ⟨μ1, nx1, hv, hp, hw⟩, st⟩ := hr T hT X0
  cases hv
  obtain ⟨t2, a1, b1⟩ := kk μ1 nx1 T'.heap (locs ++ L) hp (hp_back hH hL e1 hw) T' rfl X'
  exact ⟨t2, st t2 a1, b1⟩
/-- ends -/
theorem hp_ri {post : Int32 → hp_M → Nat → Prop} {v : Int32} (hx : p.tables.exec = Jvm.exec) (hb : c.code = cc) (hr : meth.sig.returnType = some .int) (hlocks : meth.locks = false) (hS : KS X s) (hH : hp_w X cls μ nx H locs) (hp : post v μ nx) (hdg : decode cc pc = .ok (.ireturn, 1)) : W p l e R s m args below meth c H locs cells slots (MQ below (hq_i X post) args s cells slots (hp_A X)) (F0 m pc ls [.int v]) :=
  W.iret hx hb hr (fun t ht hW => ⟨v, μ, nx, rfl, hp, hS.warm hW, by rw [ht]; exact hH.drop⟩) (fun q hq => hH.2.2.2.2 q hq) hdg hlocks
theorem hp_rz {post : Int32 → hp_M → Nat → Prop} {v : Int32} (hx : p.tables.exec = Jvm.exec) (hb : c.code = cc) (hr : meth.sig.returnType = some .boolean) (hlocks : meth.locks = false) (hS : KS X s) (hH : hp_w X cls μ nx H locs) (hv : narrow .boolean (.int v) = .int v) (hp : post v μ nx) (hdg : decode cc pc = .ok (.ireturn, 1)) : W p l e R s m args below meth c H locs cells slots (MQ below (hq_i X post) args s cells slots (hp_A X)) (F0 m pc ls [.int v]) :=
  W.zret (ty := .boolean) hx hb hr hv (fun t ht hW => ⟨v, μ, nx, rfl, hp, hS.warm hW, by rw [ht]; exact hH.drop⟩) (fun q hq => hH.2.2.2.2 q hq) hdg hlocks
theorem hp_rl {post : Int64 → hp_M → Nat → Prop} {v : Int64} (hx : p.tables.exec = Jvm.exec) (hb : c.code = cc) (hr : meth.sig.returnType = some .long) (hlocks : meth.locks = false) (hS : KS X s) (hH : hp_w X cls μ nx H locs) (hp : post v μ nx) (hdg : decode cc pc = .ok (.lreturn, 1)) : W p l e R s m args below meth c H locs cells slots (MQ below (hq_l X post) args s cells slots (hp_A X)) (F0 m pc ls [.long v]) :=
  W.lret hx hb hr (fun t ht hW => ⟨v, μ, nx, rfl, hp, hS.warm hW, by rw [ht]; exact hH.drop⟩) (fun q hq => hH.2.2.2.2 q hq) hdg hlocks
theorem hp_rr {post : Nat → hp_M → Nat → Prop} {v : Nat} {rt : FieldType} (hx : p.tables.exec = Jvm.exec) (hb : c.code = cc) (hr : meth.sig.returnType = some rt) (hrt : (∃ n, rt = .object n) ∨ ∃ t, rt = .array t) (hlocks : meth.locks = false) (hS : KS X s) (hH : hp_w X cls μ nx H locs) (hp : post v μ nx) (hdg : decode cc pc = .ok (.areturn, 1)) : W p l e R s m args below meth c H locs cells slots (MQ below (hq_r X post) args s cells slots (hp_A X)) (F0 m pc ls [.ref v]) :=
  W.aret (v := .ref v) hx hb hr hrt (Or.inr ⟨v, rfl⟩) (fun t ht hW => ⟨v, μ, nx, rfl, hp, hS.warm hW, by rw [ht]; exact hH.drop⟩) (fun q hq => hH.2.2.2.2 q hq) hdg hlocks
theorem hp_rv {post : hp_M → Nat → Prop} (hx : p.tables.exec = Jvm.exec) (hb : c.code = cc) (hr : meth.sig.returnType = none) (hlocks : meth.locks = false) (hS : KS X s) (hH : hp_w X cls μ nx H locs) (hp : post μ nx) (hdg : decode cc pc = .ok (.return_, 1)) : W p l e R s m args below meth c H locs cells slots (MQ below (hq_v X post) args s cells slots (hp_A X)) (F0 m pc ls []) :=
  W.vret hx hb hr (fun t ht hW => ⟨μ, nx, rfl, hp, hS.warm hW, by rw [ht]; exact hH.drop⟩) (fun q hq => hH.2.2.2.2 q hq) hdg hlocks
/-- a number on the stack by another name -/
theorem hp_eqi {x z : Int32} (h : x = z) (k : W p l e R s m args below meth c H locs cells slots Q (F0 m pc ls (.int z :: rest))) : W p l e R s m args below meth c H locs cells slots Q (F0 m pc ls (.int x :: rest)) := h ▸ k
theorem hp_eql {x z : Int64} (h : x = z) (k : W p l e R s m args below meth c H locs cells slots Q (F0 m pc ls (.long z :: rest))) : W p l e R s m args below meth c H locs cells slots Q (F0 m pc ls (.long x :: rest)) := h ▸ k
end HPC
/-- fields, by membership -/
def sF (own : String) (index ci k : Nat) : Prop :=
  ∃ (C : String) (T : u_T) (N : Nat) (ref : String), cls[ci]? = some (C, T, N) ∧ k < N ∧ (∀ w ∈ u_ws C T N, w ∈ tb) ∧ (Cond.fieldLink own index ref (T k).2.1 (T k).2.2.1 ∈ tb ∨ ∃ host : String, Cond.fieldLinkNest own index ref (T k).2.1 (T k).2.2.1 host ∈ tb) ∧ (ref = (T k).1 ∨ Cond.sameField ref (T k).1 (T k).2.1 (T k).2.2.1 ∈ tb)
theorem sF.use {own : String} {index ci k : Nat} (h : sF own index ci k) {X : hp_X} {s : State} (hS : KS X s) {args : Array Value} : hp_F cls s args own index ci k := by
  obtain ⟨C, T, N, ref, h1, h2, h3, h4, h5⟩ := h
  refine ⟨C, T, N, ref, h1, h2, fun w hw => hS.1 w (h3 w hw) args, ?_, ?_⟩
  · rcases h4 with h4 | ⟨host, h4⟩
    · exact Or.inl (hS.1 _ h4 args)
    · exact Or.inr ⟨host, hS.1 _ h4 args⟩
  · rcases h5 with rfl | h5
    · exact fun _ h => h
    · exact fun x hx => u_same (hS.1 _ h5 args) x hx
def sP (own : String) (index ci k : Nat) (ty : FieldType) (fin : Bool) : Prop :=
  ∃ (C : String) (T : u_T) (N : Nat) (ref : String) (ty0 : Nat → FieldType), cls[ci]? = some (C, T, N) ∧ k < N ∧ (∀ w ∈ u_ws C T N, w ∈ tb) ∧ (Cond.fieldLink own index ref (T k).2.1 (T k).2.2.1 ∈ tb ∨ (fin = false ∧ ∃ host : String, Cond.fieldLinkNest own index ref (T k).2.1 (T k).2.2.1 host ∈ tb)) ∧ (ref = (T k).1 ∨ Cond.sameField ref (T k).1 (T k).2.1 (T k).2.2.1 ∈ tb) ∧ (T k).2.2.2 = fin ∧ parseFieldDescriptor (T k).2.2.1 = some ty ∧ hp_T T N ty0 ∧ (fin = true → (T k).1 = own)
theorem sP.use {own : String} {index ci k : Nat} {ty : FieldType} {fin : Bool} (h : sP own index ci k ty fin) {X : hp_X} {s : State} (hS : KS X s) {args : Array Value} : hp_P cls s args own index ci k ty fin := by
  obtain ⟨C, T, N, ref, ty0, h1, h2, h3, h4, h5, h6, h7, h8, h9⟩ := h
  refine ⟨C, T, N, ref, ty0, h1, h2, fun w hw => hS.1 w (h3 w hw) args, ?_, ?_, h6, h7, h8, h9⟩
  · rcases h4 with h4 | ⟨h0, host, h4⟩
    · exact Or.inl (hS.1 _ h4 args)
    · exact Or.inr ⟨h0, host, hS.1 _ h4 args⟩
  · rcases h5 with rfl | h5
    · exact fun _ h => h
    · exact fun x hx => u_same (hS.1 _ h5 args) x hx
end
section
theorem wi_0 : Cond.selects RJx4a65c yJx4a65c_add_72be8 yJx4a65c_add_72be8 ∈ tb := tb_of (List.mem_of_getElem? (i := 0) rfl) rfl
theorem wi_1 : Cond.selects RJx4a65c yJx4a65c_grow_d5877 yJx4a65c_grow_d5877 ∈ tb := tb_of (List.mem_of_getElem? (i := 1) rfl) rfl
theorem wi_2 : Cond.selects RJx4a65c yJx4a65c_grow_92f84 yJx4a65c_grow_92f84 ∈ tb := tb_of (List.mem_of_getElem? (i := 2) rfl) rfl
theorem wi_3 : Cond.selects RX4 yX4_readTold yX4_readTold ∈ tb := tb_of (List.mem_of_getElem? (i := 3) rfl) rfl
theorem wi_4 : Cond.selects RX4 yX4_kindOfCommand yX4_kindOfCommand ∈ tb := tb_of (List.mem_of_getElem? (i := 4) rfl) rfl
theorem wi_5 : Cond.selects RX9 yX9_becomeReady yX9_becomeReady ∈ tb := tb_of (List.mem_of_getElem? (i := 5) rfl) rfl
theorem wi_6 : Cond.selects RX9 yX9_become yX9_become ∈ tb := tb_of (List.mem_of_getElem? (i := 6) rfl) rfl
theorem wi_7 : Cond.selects RX9 yX9_hearReady yX9_hearReady ∈ tb := tb_of (List.mem_of_getElem? (i := 7) rfl) rfl
theorem wi_8 : Cond.selects RX9 yX9_showsWhatIsTold yX9_showsWhatIsTold ∈ tb := tb_of (List.mem_of_getElem? (i := 8) rfl) rfl
theorem wi_9 : Cond.selects RX9 yX9_becomeChosen yX9_becomeChosen ∈ tb := tb_of (List.mem_of_getElem? (i := 9) rfl) rfl
theorem wi_10 : Cond.selects RX9 yX9_goBack yX9_goBack ∈ tb := tb_of (List.mem_of_getElem? (i := 10) rfl) rfl
theorem wi_11 : Cond.selects RX9 yX9_hearActive yX9_hearActive ∈ tb := tb_of (List.mem_of_getElem? (i := 11) rfl) rfl
theorem wi_12 : Cond.selects RX6 yX6_searchLevel yX6_searchLevel ∈ tb := tb_of (List.mem_of_getElem? (i := 12) rfl) rfl
theorem wi_13 : Cond.selects RX6 yX6_layOutSearch yX6_layOutSearch ∈ tb := tb_of (List.mem_of_getElem? (i := 13) rfl) rfl
theorem wi_14 : Cond.selects RX6 yX6_knownByte yX6_knownByte ∈ tb := tb_of (List.mem_of_getElem? (i := 14) rfl) rfl
theorem wi_15 : Cond.selects RX6 yX6_learn yX6_learn ∈ tb := tb_of (List.mem_of_getElem? (i := 15) rfl) rfl
theorem wi_16 : Cond.selects RX6 yX6_choose yX6_choose ∈ tb := tb_of (List.mem_of_getElem? (i := 16) rfl) rfl
theorem wi_17 : Cond.selects RX6 yX6_keepBytes yX6_keepBytes ∈ tb := tb_of (List.mem_of_getElem? (i := 17) rfl) rfl
theorem wi_18 : Cond.selects RX6 yX6_halt yX6_halt ∈ tb := tb_of (List.mem_of_getElem? (i := 18) rfl) rfl
theorem wi_19 : Cond.selects RX11 yX11_byteFrom yX11_byteFrom ∈ tb := tb_of (List.mem_of_getElem? (i := 19) rfl) rfl
theorem wi_20 : Cond.selects RX11 yX11_show yX11_show ∈ tb := tb_of (List.mem_of_getElem? (i := 20) rfl) rfl
theorem wi_21 : Cond.selects RX11 yX11_isTag yX11_isTag ∈ tb := tb_of (List.mem_of_getElem? (i := 21) rfl) rfl
theorem wi_22 : Cond.selects RX11 yX11_type yX11_type ∈ tb := tb_of (List.mem_of_getElem? (i := 22) rfl) rfl
theorem wi_23 : Cond.selects RX11 yX11_send yX11_send ∈ tb := tb_of (List.mem_of_getElem? (i := 23) rfl) rfl
theorem wi_24 : Cond.selects RX11 yX11_understand yX11_understand ∈ tb := tb_of (List.mem_of_getElem? (i := 24) rfl) rfl
theorem wi_25 : Cond.selects RX11 yX11_hear yX11_hear ∈ tb := tb_of (List.mem_of_getElem? (i := 25) rfl) rfl
theorem wi_26 : Cond.selects RX11 yX11_begin yX11_begin ∈ tb := tb_of (List.mem_of_getElem? (i := 26) rfl) rfl
theorem wi_27 : Cond.selects RX11 yX11_say yX11_say ∈ tb := tb_of (List.mem_of_getElem? (i := 27) rfl) rfl
theorem wi_28 : Cond.selects RX11 yX11_shows yX11_shows ∈ tb := tb_of (List.mem_of_getElem? (i := 28) rfl) rfl
theorem wi_29 : Cond.selects RX11 yX11_sayRest yX11_sayRest ∈ tb := tb_of (List.mem_of_getElem? (i := 29) rfl) rfl
theorem wi_30 : Cond.selects RX11 yX11_levels yX11_levels ∈ tb := tb_of (List.mem_of_getElem? (i := 30) rfl) rfl
theorem wi_31 : Cond.selects RX11 yX11_sayChecked yX11_sayChecked ∈ tb := tb_of (List.mem_of_getElem? (i := 31) rfl) rfl
theorem wi_32 : Cond.selects RX11 yX11_back yX11_back ∈ tb := tb_of (List.mem_of_getElem? (i := 32) rfl) rfl
theorem wi_33 : Cond.selects RX11 yX11_sendShort yX11_sendShort ∈ tb := tb_of (List.mem_of_getElem? (i := 33) rfl) rfl
theorem wi_34 : Cond.selects RX11 yX11_knows yX11_knows ∈ tb := tb_of (List.mem_of_getElem? (i := 34) rfl) rfl
theorem wi_35 : Cond.selects RX11 yX11_sendSearch yX11_sendSearch ∈ tb := tb_of (List.mem_of_getElem? (i := 35) rfl) rfl
theorem wi_36 : Cond.selects RX11 yX11_put yX11_put ∈ tb := tb_of (List.mem_of_getElem? (i := 36) rfl) rfl
theorem wi_37 : Cond.selects RX11 yX11_knownByte yX11_knownByte ∈ tb := tb_of (List.mem_of_getElem? (i := 37) rfl) rfl
theorem wi_38 : Cond.selects RX11 yX11_chooses yX11_chooses ∈ tb := tb_of (List.mem_of_getElem? (i := 38) rfl) rfl
theorem wi_39 : Cond.selects RX11 yX11_putChecked yX11_putChecked ∈ tb := tb_of (List.mem_of_getElem? (i := 39) rfl) rfl
theorem wi_41 : Cond.initialized RX10 ∈ tb := tb_of (List.mem_of_getElem? (i := 41) rfl) rfl
theorem wi_42 : Cond.initialized RX8 ∈ tb := tb_of (List.mem_of_getElem? (i := 42) rfl) rfl
theorem wi_43 : Cond.initialized RX2 ∈ tb := tb_of (List.mem_of_getElem? (i := 43) rfl) rfl
theorem wi_44 : Cond.initialized RX1 ∈ tb := tb_of (List.mem_of_getElem? (i := 44) rfl) rfl
theorem wi_45 : Cond.initialized RJxa1e45 ∈ tb := tb_of (List.mem_of_getElem? (i := 45) rfl) rfl
theorem wi_46 : Cond.initialized RJxc12de ∈ tb := tb_of (List.mem_of_getElem? (i := 46) rfl) rfl
theorem wi_47 : Cond.initialized RJx4a65c ∈ tb := tb_of (List.mem_of_getElem? (i := 47) rfl) rfl
theorem wi_48 : Cond.initialized RX4 ∈ tb := tb_of (List.mem_of_getElem? (i := 48) rfl) rfl
theorem wi_51 : Cond.initialized RX6 ∈ tb := tb_of (List.mem_of_getElem? (i := 51) rfl) rfl
theorem wi_52 : Cond.initialized RX11 ∈ tb := tb_of (List.mem_of_getElem? (i := 52) rfl) rfl
theorem wi_53 : Cond.initialized RX9 ∈ tb := tb_of (List.mem_of_getElem? (i := 53) rfl) rfl
theorem wi_54 : Cond.initialized RJ15 ∈ tb := tb_of (List.mem_of_getElem? (i := 54) rfl) rfl
theorem wi_55 : Cond.initialized RJ3 ∈ tb := tb_of (List.mem_of_getElem? (i := 55) rfl) rfl
theorem wi_56 : Cond.initialized RJ8 ∈ tb := tb_of (List.mem_of_getElem? (i := 56) rfl) rfl
theorem wi_57 : Cond.initialized RJ9 ∈ tb := tb_of (List.mem_of_getElem? (i := 57) rfl) rfl
theorem wi_58 : Cond.initialized RJ7 ∈ tb := tb_of (List.mem_of_getElem? (i := 58) rfl) rfl
theorem wi_60 : Cond.initialized RX3 ∈ tb := tb_of (List.mem_of_getElem? (i := 60) rfl) rfl
theorem wi_61 : Cond.initialized RJ13 ∈ tb := tb_of (List.mem_of_getElem? (i := 61) rfl) rfl
theorem wi_62 : Cond.initialized RJ6 ∈ tb := tb_of (List.mem_of_getElem? (i := 62) rfl) rfl
theorem wi_65 : Cond.classLink RL 7 RX10 ∈ tb := tb_of (List.mem_of_getElem? (i := 65) rfl) rfl
theorem wi_66 : Cond.instantiable RX10 4 ∈ tb := tb_of (List.mem_of_getElem? (i := 66) rfl) rfl
theorem wi_67 : Cond.methodLink RL 9 yX10_init ∈ tb := tb_of (List.mem_of_getElem? (i := 67) rfl) rfl
theorem wi_68 : Cond.instanceMethod yX10_init ∈ tb := tb_of (List.mem_of_getElem? (i := 68) rfl) rfl
theorem wi_69 : Cond.code yX10_init cX10_init 1 (none : Option Jvm.ClassFile.FieldType) ∈ tb := tb_of (List.mem_of_getElem? (i := 69) rfl) rfl
theorem wi_73 : Cond.classLink RX10 7 RX8 ∈ tb := tb_of (List.mem_of_getElem? (i := 73) rfl) rfl
theorem wi_74 : Cond.instantiable RX8 2 ∈ tb := tb_of (List.mem_of_getElem? (i := 74) rfl) rfl
theorem wi_75 : Cond.methodLink RX10 11 yX8_init ∈ tb := tb_of (List.mem_of_getElem? (i := 75) rfl) rfl
theorem wi_76 : Cond.instanceMethod yX8_init ∈ tb := tb_of (List.mem_of_getElem? (i := 76) rfl) rfl
theorem wi_77 : Cond.code yX8_init cX8_init 2 (none : Option Jvm.ClassFile.FieldType) ∈ tb := tb_of (List.mem_of_getElem? (i := 77) rfl) rfl
theorem wi_79 : Cond.fieldLink RX8 9 "TagField$Row" "bits" "[I" ∈ tb := tb_of (List.mem_of_getElem? (i := 79) rfl) rfl
theorem wi_80 : Cond.fieldLinkNest RX4 20 "TagField$Row" "size" "I" "TagField" ∈ tb := tb_of (List.mem_of_getElem? (i := 80) rfl) rfl
theorem wi_81 : Cond.fieldLink RX8 15 "TagField$Row" "size" "I" ∈ tb := tb_of (List.mem_of_getElem? (i := 81) rfl) rfl
theorem wi_82 : Cond.fieldLinkNest RX10 79 "TagField$Row" "size" "I" "TagField" ∈ tb := tb_of (List.mem_of_getElem? (i := 82) rfl) rfl
theorem wi_87 : Cond.superclass "TagField$Row" "java/lang/Object" ∈ tb := tb_of (List.mem_of_getElem? (i := 87) rfl) rfl
theorem wi_88 : Cond.arrayClass .int ∈ tb := tb_of (List.mem_of_getElem? (i := 88) rfl) rfl
theorem wi_89 : Cond.classLink RX10 18 RX2 ∈ tb := tb_of (List.mem_of_getElem? (i := 89) rfl) rfl
theorem wi_90 : Cond.instantiable RX2 3 ∈ tb := tb_of (List.mem_of_getElem? (i := 90) rfl) rfl
theorem wi_91 : Cond.methodLinkNest RX10 20 yX2_init "TagField" ∈ tb := tb_of (List.mem_of_getElem? (i := 91) rfl) rfl
theorem wi_92 : Cond.instanceMethod yX2_init ∈ tb := tb_of (List.mem_of_getElem? (i := 92) rfl) rfl
theorem wi_93 : Cond.code yX2_init cX2_init 1 (none : Option Jvm.ClassFile.FieldType) ∈ tb := tb_of (List.mem_of_getElem? (i := 93) rfl) rfl
theorem wi_95 : Cond.fieldLink RX2 9 "TagField$Answer" "ones" "J" ∈ tb := tb_of (List.mem_of_getElem? (i := 95) rfl) rfl
theorem wi_96 : Cond.fieldLink RX2 15 "TagField$Answer" "zeros" "J" ∈ tb := tb_of (List.mem_of_getElem? (i := 96) rfl) rfl
theorem wi_97 : Cond.fieldLink RX2 18 "TagField$Answer" "length" "I" ∈ tb := tb_of (List.mem_of_getElem? (i := 97) rfl) rfl
theorem wi_98 : Cond.fieldLinkNest RX1 77 "TagField$Answer" "length" "I" "TagField" ∈ tb := tb_of (List.mem_of_getElem? (i := 98) rfl) rfl
theorem wi_105 : Cond.superclass "TagField$Answer" "java/lang/Object" ∈ tb := tb_of (List.mem_of_getElem? (i := 105) rfl) rfl
theorem wi_106 : Cond.classLink RX10 25 RX1 ∈ tb := tb_of (List.mem_of_getElem? (i := 106) rfl) rfl
theorem wi_107 : Cond.instantiable RX1 4 ∈ tb := tb_of (List.mem_of_getElem? (i := 107) rfl) rfl
theorem wi_108 : Cond.methodLinkNest RX10 27 yX1_init "TagField" ∈ tb := tb_of (List.mem_of_getElem? (i := 108) rfl) rfl
theorem wi_109 : Cond.instanceMethod yX1_init ∈ tb := tb_of (List.mem_of_getElem? (i := 109) rfl) rfl
theorem wi_110 : Cond.code yX1_init cX1_init 1 (none : Option Jvm.ClassFile.FieldType) ∈ tb := tb_of (List.mem_of_getElem? (i := 110) rfl) rfl
theorem wi_112 : Cond.classLink RX1 7 RJx4a65c ∈ tb := tb_of (List.mem_of_getElem? (i := 112) rfl) rfl
theorem wi_113 : Cond.instantiable RJx4a65c 3 ∈ tb := tb_of (List.mem_of_getElem? (i := 113) rfl) rfl
theorem wi_114 : Cond.methodLink RX1 9 yJx4a65c_init_da8c8 ∈ tb := tb_of (List.mem_of_getElem? (i := 114) rfl) rfl
theorem wi_115 : Cond.instanceMethod yJx4a65c_init_da8c8 ∈ tb := tb_of (List.mem_of_getElem? (i := 115) rfl) rfl
theorem wi_116 : Cond.code yJx4a65c_init_da8c8 cJx4a65c_init_da8c8 1 (none : Option Jvm.ClassFile.FieldType) ∈ tb := tb_of (List.mem_of_getElem? (i := 116) rfl) rfl
theorem wi_117 : Cond.methodLink RJx4a65c 1 yJxc12de_init_da8c8 ∈ tb := tb_of (List.mem_of_getElem? (i := 117) rfl) rfl
theorem wi_118 : Cond.instanceMethod yJxc12de_init_da8c8 ∈ tb := tb_of (List.mem_of_getElem? (i := 118) rfl) rfl
theorem wi_119 : Cond.code yJxc12de_init_da8c8 cJxc12de_init_da8c8 1 (none : Option Jvm.ClassFile.FieldType) ∈ tb := tb_of (List.mem_of_getElem? (i := 119) rfl) rfl
theorem wi_120 : Cond.methodLink RJxc12de 1 yJxa1e45_init_da8c8 ∈ tb := tb_of (List.mem_of_getElem? (i := 120) rfl) rfl
theorem wi_121 : Cond.instanceMethod yJxa1e45_init_da8c8 ∈ tb := tb_of (List.mem_of_getElem? (i := 121) rfl) rfl
theorem wi_122 : Cond.code yJxa1e45_init_da8c8 cJxa1e45_init_da8c8 1 (none : Option Jvm.ClassFile.FieldType) ∈ tb := tb_of (List.mem_of_getElem? (i := 122) rfl) rfl
theorem wi_126 : Cond.fieldLink RJx4a65c 9 "java/util/ArrayList" "elementData" "[Ljava/lang/Object;" ∈ tb := tb_of (List.mem_of_getElem? (i := 126) rfl) rfl
theorem wi_127 : Cond.fieldLink RJx4a65c 48 "java/util/ArrayList" "size" "I" ∈ tb := tb_of (List.mem_of_getElem? (i := 127) rfl) rfl
theorem wi_128 : Cond.fieldLink RJxc12de 7 "java/util/AbstractList" "modCount" "I" ∈ tb := tb_of (List.mem_of_getElem? (i := 128) rfl) rfl
theorem wi_129 : Cond.fieldLink RJx4a65c 63 "java/util/ArrayList" "modCount" "I" ∈ tb := tb_of (List.mem_of_getElem? (i := 129) rfl) rfl
theorem wi_130 : Cond.sameField "java/util/ArrayList" "java/util/AbstractList" "modCount" "I" ∈ tb := tb_of (List.mem_of_getElem? (i := 130) rfl) rfl
theorem wi_137 : Cond.superclass "java/util/ArrayList" "java/util/AbstractList" ∈ tb := tb_of (List.mem_of_getElem? (i := 137) rfl) rfl
theorem wi_138 : Cond.classLink RX1 16 RX4 ∈ tb := tb_of (List.mem_of_getElem? (i := 138) rfl) rfl
theorem wi_139 : Cond.instantiable RX4 5 ∈ tb := tb_of (List.mem_of_getElem? (i := 139) rfl) rfl
theorem wi_140 : Cond.methodLinkNest RX1 18 yX4_init "TagField" ∈ tb := tb_of (List.mem_of_getElem? (i := 140) rfl) rfl
theorem wi_141 : Cond.instanceMethod yX4_init ∈ tb := tb_of (List.mem_of_getElem? (i := 141) rfl) rfl
theorem wi_142 : Cond.code yX4_init cX4_init 1 (none : Option Jvm.ClassFile.FieldType) ∈ tb := tb_of (List.mem_of_getElem? (i := 142) rfl) rfl
theorem wi_146 : Cond.fieldLink RX4 15 "TagField$Frame" "kind" "LTagField$Kind;" ∈ tb := tb_of (List.mem_of_getElem? (i := 146) rfl) rfl
theorem wi_147 : Cond.fieldLinkNest RX9 45 "TagField$Frame" "kind" "LTagField$Kind;" "TagField" ∈ tb := tb_of (List.mem_of_getElem? (i := 147) rfl) rfl
theorem wi_148 : Cond.fieldLink RX4 37 "TagField$Frame" "level" "I" ∈ tb := tb_of (List.mem_of_getElem? (i := 148) rfl) rfl
theorem wi_149 : Cond.fieldLinkNest RX9 89 "TagField$Frame" "level" "I" "TagField" ∈ tb := tb_of (List.mem_of_getElem? (i := 149) rfl) rfl
theorem wi_150 : Cond.fieldLink RX4 30 "TagField$Frame" "second" "I" ∈ tb := tb_of (List.mem_of_getElem? (i := 150) rfl) rfl
theorem wi_151 : Cond.fieldLinkNest RX9 161 "TagField$Frame" "second" "I" "TagField" ∈ tb := tb_of (List.mem_of_getElem? (i := 151) rfl) rfl
theorem wi_152 : Cond.fieldLink RX4 80 "TagField$Frame" "told" "J" ∈ tb := tb_of (List.mem_of_getElem? (i := 152) rfl) rfl
theorem wi_153 : Cond.fieldLinkNest RX9 113 "TagField$Frame" "told" "J" "TagField" ∈ tb := tb_of (List.mem_of_getElem? (i := 153) rfl) rfl
theorem wi_154 : Cond.fieldLink RX4 84 "TagField$Frame" "toldCount" "I" ∈ tb := tb_of (List.mem_of_getElem? (i := 154) rfl) rfl
theorem wi_155 : Cond.fieldLinkNest RX9 110 "TagField$Frame" "toldCount" "I" "TagField" ∈ tb := tb_of (List.mem_of_getElem? (i := 155) rfl) rfl
theorem wi_166 : Cond.superclass "TagField$Frame" "java/lang/Object" ∈ tb := tb_of (List.mem_of_getElem? (i := 166) rfl) rfl
theorem wi_167 : Cond.fieldLink RX1 10 "TagField$Air" "tags" "Ljava/util/ArrayList;" ∈ tb := tb_of (List.mem_of_getElem? (i := 167) rfl) rfl
theorem wi_168 : Cond.fieldLink RX1 19 "TagField$Air" "frame" "LTagField$Frame;" ∈ tb := tb_of (List.mem_of_getElem? (i := 168) rfl) rfl
theorem wi_169 : Cond.fieldLink RX1 23 "TagField$Air" "on" "Z" ∈ tb := tb_of (List.mem_of_getElem? (i := 169) rfl) rfl
theorem wi_170 : Cond.fieldLink RX1 56 "TagField$Air" "sent" "I" ∈ tb := tb_of (List.mem_of_getElem? (i := 170) rfl) rfl
theorem wi_171 : Cond.fieldLinkNest RX10 119 "TagField$Air" "sent" "I" "TagField" ∈ tb := tb_of (List.mem_of_getElem? (i := 171) rfl) rfl
theorem wi_180 : Cond.superclass "TagField$Air" "java/lang/Object" ∈ tb := tb_of (List.mem_of_getElem? (i := 180) rfl) rfl
theorem wi_181 : Cond.classLink RX10 32 RX6 ∈ tb := tb_of (List.mem_of_getElem? (i := 181) rfl) rfl
theorem wi_182 : Cond.instantiable RX6 7 ∈ tb := tb_of (List.mem_of_getElem? (i := 182) rfl) rfl
theorem wi_183 : Cond.methodLinkNest RX10 34 yX6_init "TagField" ∈ tb := tb_of (List.mem_of_getElem? (i := 183) rfl) rfl
theorem wi_184 : Cond.instanceMethod yX6_init ∈ tb := tb_of (List.mem_of_getElem? (i := 184) rfl) rfl
theorem wi_185 : Cond.code yX6_init cX6_init 1 (none : Option Jvm.ClassFile.FieldType) ∈ tb := tb_of (List.mem_of_getElem? (i := 185) rfl) rfl
theorem wi_187 : Cond.classLink RX6 9 RX8 ∈ tb := tb_of (List.mem_of_getElem? (i := 187) rfl) rfl
theorem wi_188 : Cond.methodLink RX6 11 yX8_init ∈ tb := tb_of (List.mem_of_getElem? (i := 188) rfl) rfl
theorem wi_189 : Cond.classLink RX6 20 RX2 ∈ tb := tb_of (List.mem_of_getElem? (i := 189) rfl) rfl
theorem wi_190 : Cond.methodLinkNest RX6 22 yX2_init "TagField" ∈ tb := tb_of (List.mem_of_getElem? (i := 190) rfl) rfl
theorem wi_191 : Cond.fieldLink RX6 14 "TagField$Reader" "row" "LTagField$Row;" ∈ tb := tb_of (List.mem_of_getElem? (i := 191) rfl) rfl
theorem wi_192 : Cond.fieldLink RX6 23 "TagField$Reader" "heard" "LTagField$Answer;" ∈ tb := tb_of (List.mem_of_getElem? (i := 192) rfl) rfl
theorem wi_193 : Cond.fieldLink RX6 27 "TagField$Reader" "numbers" "[I" ∈ tb := tb_of (List.mem_of_getElem? (i := 193) rfl) rfl
theorem wi_194 : Cond.fieldLink RX6 31 "TagField$Reader" "sizes" "[I" ∈ tb := tb_of (List.mem_of_getElem? (i := 194) rfl) rfl
theorem wi_195 : Cond.fieldLink RX6 34 "TagField$Reader" "count" "I" ∈ tb := tb_of (List.mem_of_getElem? (i := 195) rfl) rfl
theorem wi_196 : Cond.fieldLinkNest RX10 113 "TagField$Reader" "count" "I" "TagField" ∈ tb := tb_of (List.mem_of_getElem? (i := 196) rfl) rfl
theorem wi_197 : Cond.fieldLink RX6 69 "TagField$Reader" "known" "J" ∈ tb := tb_of (List.mem_of_getElem? (i := 197) rfl) rfl
theorem wi_198 : Cond.fieldLink RX6 73 "TagField$Reader" "knownCount" "I" ∈ tb := tb_of (List.mem_of_getElem? (i := 198) rfl) rfl
theorem wi_213 : Cond.superclass "TagField$Reader" "java/lang/Object" ∈ tb := tb_of (List.mem_of_getElem? (i := 213) rfl) rfl
theorem wi_214 : Cond.fieldLink RX10 14 "TagField" "typed" "LTagField$Row;" ∈ tb := tb_of (List.mem_of_getElem? (i := 214) rfl) rfl
theorem wi_215 : Cond.fieldLink RX10 21 "TagField" "latest" "LTagField$Answer;" ∈ tb := tb_of (List.mem_of_getElem? (i := 215) rfl) rfl
theorem wi_216 : Cond.fieldLink RX10 28 "TagField" "air" "LTagField$Air;" ∈ tb := tb_of (List.mem_of_getElem? (i := 216) rfl) rfl
theorem wi_217 : Cond.fieldLink RX10 35 "TagField" "reader" "LTagField$Reader;" ∈ tb := tb_of (List.mem_of_getElem? (i := 217) rfl) rfl
theorem wi_226 : Cond.superclass "TagField" "java/lang/Object" ∈ tb := tb_of (List.mem_of_getElem? (i := 226) rfl) rfl
theorem wi_227 : Cond.methodLink RL 13 yX10_tag ∈ tb := tb_of (List.mem_of_getElem? (i := 227) rfl) rfl
theorem wi_228 : Cond.instanceMethod yX10_tag ∈ tb := tb_of (List.mem_of_getElem? (i := 228) rfl) rfl
theorem wi_229 : Cond.selects RX10 yX10_tag yX10_tag ∈ tb := tb_of (List.mem_of_getElem? (i := 229) rfl) rfl
theorem wi_230 : Cond.code yX10_tag cX10_tag 6 (some FieldType.int) ∈ tb := tb_of (List.mem_of_getElem? (i := 230) rfl) rfl
theorem wi_231 : Cond.classLink RX10 39 RX9 ∈ tb := tb_of (List.mem_of_getElem? (i := 231) rfl) rfl
theorem wi_232 : Cond.instantiable RX9 5 ∈ tb := tb_of (List.mem_of_getElem? (i := 232) rfl) rfl
theorem wi_233 : Cond.methodLink RX10 41 yX9_init ∈ tb := tb_of (List.mem_of_getElem? (i := 233) rfl) rfl
theorem wi_234 : Cond.instanceMethod yX9_init ∈ tb := tb_of (List.mem_of_getElem? (i := 234) rfl) rfl
theorem wi_235 : Cond.code yX9_init cX9_init 6 (none : Option Jvm.ClassFile.FieldType) ∈ tb := tb_of (List.mem_of_getElem? (i := 235) rfl) rfl
theorem wi_237 : Cond.methodLink RX9 29 yX9_shownAt ∈ tb := tb_of (List.mem_of_getElem? (i := 237) rfl) rfl
theorem wi_238 : Cond.static yX9_shownAt ∈ tb := tb_of (List.mem_of_getElem? (i := 238) rfl) rfl
theorem wi_239 : Cond.code yX9_shownAt cX9_shownAt 10 (some FieldType.long) ∈ tb := tb_of (List.mem_of_getElem? (i := 239) rfl) rfl
theorem wi_240 : Cond.constantLong RX9 33 (136) ∈ tb := tb_of (List.mem_of_getElem? (i := 240) rfl) rfl
theorem wi_241 : Cond.methodLink RX9 35 yX9_numberByte ∈ tb := tb_of (List.mem_of_getElem? (i := 241) rfl) rfl
theorem wi_242 : Cond.static yX9_numberByte ∈ tb := tb_of (List.mem_of_getElem? (i := 242) rfl) rfl
theorem wi_243 : Cond.code yX9_numberByte cX9_numberByte 5 (some FieldType.int) ∈ tb := tb_of (List.mem_of_getElem? (i := 243) rfl) rfl
theorem wi_244 : Cond.constantLong RX9 39 (255) ∈ tb := tb_of (List.mem_of_getElem? (i := 244) rfl) rfl
theorem wi_245 : Cond.fieldLink RX9 22 "TagField$Tag" "levels" "I" ∈ tb := tb_of (List.mem_of_getElem? (i := 245) rfl) rfl
theorem wi_246 : Cond.fieldLink RX9 25 "TagField$Tag" "shown" "[J" ∈ tb := tb_of (List.mem_of_getElem? (i := 246) rfl) rfl
theorem wi_247 : Cond.fieldLink RX9 9 "TagField$Tag" "away" "Z" ∈ tb := tb_of (List.mem_of_getElem? (i := 247) rfl) rfl
theorem wi_248 : Cond.fieldLink RX9 15 "TagField$Tag" "state" "I" ∈ tb := tb_of (List.mem_of_getElem? (i := 248) rfl) rfl
theorem wi_249 : Cond.fieldLink RX9 19 "TagField$Tag" "level" "I" ∈ tb := tb_of (List.mem_of_getElem? (i := 249) rfl) rfl
theorem wi_260 : Cond.superclass "TagField$Tag" "java/lang/Object" ∈ tb := tb_of (List.mem_of_getElem? (i := 260) rfl) rfl
theorem wi_261 : Cond.arrayClass .long ∈ tb := tb_of (List.mem_of_getElem? (i := 261) rfl) rfl
theorem wi_262 : Cond.methodLink RX10 44 yX9_looksUnfinished ∈ tb := tb_of (List.mem_of_getElem? (i := 262) rfl) rfl
theorem wi_263 : Cond.instanceMethod yX9_looksUnfinished ∈ tb := tb_of (List.mem_of_getElem? (i := 263) rfl) rfl
theorem wi_264 : Cond.selects RX9 yX9_looksUnfinished yX9_looksUnfinished ∈ tb := tb_of (List.mem_of_getElem? (i := 264) rfl) rfl
theorem wi_265 : Cond.code yX9_looksUnfinished cX9_looksUnfinished 1 (some FieldType.boolean) ∈ tb := tb_of (List.mem_of_getElem? (i := 265) rfl) rfl
theorem wi_266 : Cond.methodLink RX10 48 yX1_knowsNumberOf ∈ tb := tb_of (List.mem_of_getElem? (i := 266) rfl) rfl
theorem wi_267 : Cond.instanceMethod yX1_knowsNumberOf ∈ tb := tb_of (List.mem_of_getElem? (i := 267) rfl) rfl
theorem wi_268 : Cond.selects RX1 yX1_knowsNumberOf yX1_knowsNumberOf ∈ tb := tb_of (List.mem_of_getElem? (i := 268) rfl) rfl
theorem wi_269 : Cond.code yX1_knowsNumberOf cX1_knowsNumberOf 3 (some FieldType.boolean) ∈ tb := tb_of (List.mem_of_getElem? (i := 269) rfl) rfl
theorem wi_270 : Cond.methodLink RX1 27 yJx4a65c_size_8abf5 ∈ tb := tb_of (List.mem_of_getElem? (i := 270) rfl) rfl
theorem wi_271 : Cond.instanceMethod yJx4a65c_size_8abf5 ∈ tb := tb_of (List.mem_of_getElem? (i := 271) rfl) rfl
theorem wi_272 : Cond.selects RJx4a65c yJx4a65c_size_8abf5 yJx4a65c_size_8abf5 ∈ tb := tb_of (List.mem_of_getElem? (i := 272) rfl) rfl
theorem wi_273 : Cond.code yJx4a65c_size_8abf5 cJx4a65c_size_8abf5 1 (some FieldType.int) ∈ tb := tb_of (List.mem_of_getElem? (i := 273) rfl) rfl
theorem wi_274 : Cond.methodLink RX1 31 yJx4a65c_get_915e3 ∈ tb := tb_of (List.mem_of_getElem? (i := 274) rfl) rfl
theorem wi_275 : Cond.instanceMethod yJx4a65c_get_915e3 ∈ tb := tb_of (List.mem_of_getElem? (i := 275) rfl) rfl
theorem wi_276 : Cond.selects RJx4a65c yJx4a65c_get_915e3 yJx4a65c_get_915e3 ∈ tb := tb_of (List.mem_of_getElem? (i := 276) rfl) rfl
theorem wi_277 : Cond.code yJx4a65c_get_915e3 cJx4a65c_get_915e3 2 (some (FieldType.object "java/lang/Object")) ∈ tb := tb_of (List.mem_of_getElem? (i := 277) rfl) rfl
theorem wi_278 : Cond.methodLink RJx4a65c 118 yJ15_checkIndex_7cf53 ∈ tb := tb_of (List.mem_of_getElem? (i := 278) rfl) rfl
theorem wi_279 : Cond.static yJ15_checkIndex_7cf53 ∈ tb := tb_of (List.mem_of_getElem? (i := 279) rfl) rfl
theorem wi_280 : Cond.code yJ15_checkIndex_7cf53 cJ15_checkIndex_7cf53 2 (some FieldType.int) ∈ tb := tb_of (List.mem_of_getElem? (i := 280) rfl) rfl
theorem wi_281 : Cond.methodLink RJ15 105 yJ3_checkIndex_8e157 ∈ tb := tb_of (List.mem_of_getElem? (i := 281) rfl) rfl
theorem wi_282 : Cond.static yJ3_checkIndex_8e157 ∈ tb := tb_of (List.mem_of_getElem? (i := 282) rfl) rfl
theorem wi_283 : Cond.code yJ3_checkIndex_8e157 cJ3_checkIndex_8e157 3 (some FieldType.int) ∈ tb := tb_of (List.mem_of_getElem? (i := 283) rfl) rfl
theorem wi_284 : Cond.methodLink RJx4a65c 123 yJx4a65c_elementData_915e3 ∈ tb := tb_of (List.mem_of_getElem? (i := 284) rfl) rfl
theorem wi_285 : Cond.instanceMethod yJx4a65c_elementData_915e3 ∈ tb := tb_of (List.mem_of_getElem? (i := 285) rfl) rfl
theorem wi_286 : Cond.selects RJx4a65c yJx4a65c_elementData_915e3 yJx4a65c_elementData_915e3 ∈ tb := tb_of (List.mem_of_getElem? (i := 286) rfl) rfl
theorem wi_287 : Cond.code yJx4a65c_elementData_915e3 cJx4a65c_elementData_915e3 2 (some (FieldType.object "java/lang/Object")) ∈ tb := tb_of (List.mem_of_getElem? (i := 287) rfl) rfl
theorem wi_288 : Cond.classLink RX1 35 RX9 ∈ tb := tb_of (List.mem_of_getElem? (i := 288) rfl) rfl
theorem wi_289 : Cond.methodLink RX1 37 yX9_hasNumberOf ∈ tb := tb_of (List.mem_of_getElem? (i := 289) rfl) rfl
theorem wi_290 : Cond.instanceMethod yX9_hasNumberOf ∈ tb := tb_of (List.mem_of_getElem? (i := 290) rfl) rfl
theorem wi_291 : Cond.selects RX9 yX9_hasNumberOf yX9_hasNumberOf ∈ tb := tb_of (List.mem_of_getElem? (i := 291) rfl) rfl
theorem wi_292 : Cond.code yX9_hasNumberOf cX9_hasNumberOf 3 (some FieldType.boolean) ∈ tb := tb_of (List.mem_of_getElem? (i := 292) rfl) rfl
theorem wi_293 : Cond.methodLink RX10 52 yX1_count ∈ tb := tb_of (List.mem_of_getElem? (i := 293) rfl) rfl
theorem wi_294 : Cond.instanceMethod yX1_count ∈ tb := tb_of (List.mem_of_getElem? (i := 294) rfl) rfl
theorem wi_295 : Cond.selects RX1 yX1_count yX1_count ∈ tb := tb_of (List.mem_of_getElem? (i := 295) rfl) rfl
theorem wi_296 : Cond.code yX1_count cX1_count 1 (some FieldType.int) ∈ tb := tb_of (List.mem_of_getElem? (i := 296) rfl) rfl
theorem wi_297 : Cond.methodLink RX10 56 yX1_bring ∈ tb := tb_of (List.mem_of_getElem? (i := 297) rfl) rfl
theorem wi_298 : Cond.instanceMethod yX1_bring ∈ tb := tb_of (List.mem_of_getElem? (i := 298) rfl) rfl
theorem wi_299 : Cond.selects RX1 yX1_bring yX1_bring ∈ tb := tb_of (List.mem_of_getElem? (i := 299) rfl) rfl
theorem wi_300 : Cond.code yX1_bring cX1_bring 2 (some FieldType.int) ∈ tb := tb_of (List.mem_of_getElem? (i := 300) rfl) rfl
theorem wi_301 : Cond.methodLink RX1 41 yX9_beginAnew ∈ tb := tb_of (List.mem_of_getElem? (i := 301) rfl) rfl
theorem wi_302 : Cond.instanceMethod yX9_beginAnew ∈ tb := tb_of (List.mem_of_getElem? (i := 302) rfl) rfl
theorem wi_303 : Cond.selects RX9 yX9_beginAnew yX9_beginAnew ∈ tb := tb_of (List.mem_of_getElem? (i := 303) rfl) rfl
theorem wi_304 : Cond.code yX9_beginAnew cX9_beginAnew 2 (none : Option Jvm.ClassFile.FieldType) ∈ tb := tb_of (List.mem_of_getElem? (i := 304) rfl) rfl
theorem wi_305 : Cond.methodLink RX1 45 yJx4a65c_add_9ea2d ∈ tb := tb_of (List.mem_of_getElem? (i := 305) rfl) rfl
theorem wi_306 : Cond.instanceMethod yJx4a65c_add_9ea2d ∈ tb := tb_of (List.mem_of_getElem? (i := 306) rfl) rfl
theorem wi_307 : Cond.selects RJx4a65c yJx4a65c_add_9ea2d yJx4a65c_add_9ea2d ∈ tb := tb_of (List.mem_of_getElem? (i := 307) rfl) rfl
theorem wi_308 : Cond.code yJx4a65c_add_9ea2d cJx4a65c_add_9ea2d 2 (some FieldType.boolean) ∈ tb := tb_of (List.mem_of_getElem? (i := 308) rfl) rfl
theorem wi_309 : Cond.methodLink RJx4a65c 131 yJx4a65c_add_72be8 ∈ tb := tb_of (List.mem_of_getElem? (i := 309) rfl) rfl
theorem wi_311 : Cond.instanceMethod yJx4a65c_add_72be8 ∈ tb := tb_of (List.mem_of_getElem? (i := 311) rfl) rfl
theorem wi_312 : Cond.code yJx4a65c_add_72be8 cJx4a65c_add_72be8 4 (none : Option Jvm.ClassFile.FieldType) ∈ tb := tb_of (List.mem_of_getElem? (i := 312) rfl) rfl
theorem wi_313 : Cond.methodLink RJx4a65c 129 yJx4a65c_grow_d5877 ∈ tb := tb_of (List.mem_of_getElem? (i := 313) rfl) rfl
theorem wi_315 : Cond.instanceMethod yJx4a65c_grow_d5877 ∈ tb := tb_of (List.mem_of_getElem? (i := 315) rfl) rfl
theorem wi_316 : Cond.code yJx4a65c_grow_d5877 cJx4a65c_grow_d5877 1 (some (FieldType.array (FieldType.object "java/lang/Object"))) ∈ tb := tb_of (List.mem_of_getElem? (i := 316) rfl) rfl
theorem wi_317 : Cond.methodLink RJx4a65c 69 yJx4a65c_grow_92f84 ∈ tb := tb_of (List.mem_of_getElem? (i := 317) rfl) rfl
theorem wi_319 : Cond.instanceMethod yJx4a65c_grow_92f84 ∈ tb := tb_of (List.mem_of_getElem? (i := 319) rfl) rfl
theorem wi_320 : Cond.code yJx4a65c_grow_92f84 cJx4a65c_grow_92f84 4 (some (FieldType.array (FieldType.object "java/lang/Object"))) ∈ tb := tb_of (List.mem_of_getElem? (i := 320) rfl) rfl
theorem wi_321 : Cond.methodLink RJx4a65c 73 yJ8_newLength_cabcc ∈ tb := tb_of (List.mem_of_getElem? (i := 321) rfl) rfl
theorem wi_322 : Cond.static yJ8_newLength_cabcc ∈ tb := tb_of (List.mem_of_getElem? (i := 322) rfl) rfl
theorem wi_323 : Cond.code yJ8_newLength_cabcc cJ8_newLength_cabcc 4 (some FieldType.int) ∈ tb := tb_of (List.mem_of_getElem? (i := 323) rfl) rfl
theorem wi_324 : Cond.methodLink RJ8 194 yJ9_max_7cf53 ∈ tb := tb_of (List.mem_of_getElem? (i := 324) rfl) rfl
theorem wi_325 : Cond.static yJ9_max_7cf53 ∈ tb := tb_of (List.mem_of_getElem? (i := 325) rfl) rfl
theorem wi_326 : Cond.code yJ9_max_7cf53 cJ9_max_7cf53 2 (some FieldType.int) ∈ tb := tb_of (List.mem_of_getElem? (i := 326) rfl) rfl
theorem wi_327 : Cond.constant RJ8 200 (2147483639) ∈ tb := tb_of (List.mem_of_getElem? (i := 327) rfl) rfl
theorem wi_328 : Cond.methodLink RJ8 201 yJ8_hugeLength_7cf53 ∈ tb := tb_of (List.mem_of_getElem? (i := 328) rfl) rfl
theorem wi_329 : Cond.static yJ8_hugeLength_7cf53 ∈ tb := tb_of (List.mem_of_getElem? (i := 329) rfl) rfl
theorem wi_330 : Cond.code yJ8_hugeLength_7cf53 cJ8_hugeLength_7cf53 3 (some FieldType.int) ∈ tb := tb_of (List.mem_of_getElem? (i := 330) rfl) rfl
theorem wi_331 : Cond.methodLink RJx4a65c 66 yJ7_copyOf_1904c ∈ tb := tb_of (List.mem_of_getElem? (i := 331) rfl) rfl
theorem wi_332 : Cond.static yJ7_copyOf_1904c ∈ tb := tb_of (List.mem_of_getElem? (i := 332) rfl) rfl
theorem wi_333 : Cond.code yJ7_copyOf_1904c cJ7_copyOf_1904c 2 (some (FieldType.array (FieldType.object "java/lang/Object"))) ∈ tb := tb_of (List.mem_of_getElem? (i := 333) rfl) rfl
theorem wi_336 : Cond.sameMethod "java/lang/Object" "java/lang/Object" "getClass" "()Ljava/lang/Class;" ∈ tb := tb_of (List.mem_of_getElem? (i := 336) rfl) rfl
theorem wi_348 : Cond.native ⟨"java/lang/Object", "getClass", "()Ljava/lang/Class;"⟩ ∈ tb := tb_of (List.mem_of_getElem? (i := 348) rfl) rfl
theorem wi_349 : Cond.methodLink RJ7 300 yJ7_copyOf_6403c ∈ tb := tb_of (List.mem_of_getElem? (i := 349) rfl) rfl
theorem wi_350 : Cond.static yJ7_copyOf_6403c ∈ tb := tb_of (List.mem_of_getElem? (i := 350) rfl) rfl
theorem wi_351 : Cond.code yJ7_copyOf_6403c cJ7_copyOf_6403c 4 (some (FieldType.array (FieldType.object "java/lang/Object"))) ∈ tb := tb_of (List.mem_of_getElem? (i := 351) rfl) rfl
theorem wi_353 : Cond.arrayOver (.object "java/lang/Object") ∈ tb := tb_of (List.mem_of_getElem? (i := 353) rfl) rfl
theorem wi_355 : Cond.methodLink RJ7 304 yJ9_min_7cf53 ∈ tb := tb_of (List.mem_of_getElem? (i := 355) rfl) rfl
theorem wi_356 : Cond.static yJ9_min_7cf53 ∈ tb := tb_of (List.mem_of_getElem? (i := 356) rfl) rfl
theorem wi_357 : Cond.code yJ9_min_7cf53 cJ9_min_7cf53 2 (some FieldType.int) ∈ tb := tb_of (List.mem_of_getElem? (i := 357) rfl) rfl
theorem wi_360 : Cond.native ⟨"java/lang/System", "arraycopy", "(Ljava/lang/Object;ILjava/lang/Object;II)V"⟩ ∈ tb := tb_of (List.mem_of_getElem? (i := 360) rfl) rfl
theorem wi_361 : Cond.methodLink RJx4a65c 79 yJ9_max_7cf53 ∈ tb := tb_of (List.mem_of_getElem? (i := 361) rfl) rfl
theorem wi_363 : Cond.methodLink RL 18 yX10_out ∈ tb := tb_of (List.mem_of_getElem? (i := 363) rfl) rfl
theorem wi_364 : Cond.instanceMethod yX10_out ∈ tb := tb_of (List.mem_of_getElem? (i := 364) rfl) rfl
theorem wi_365 : Cond.selects RX10 yX10_out yX10_out ∈ tb := tb_of (List.mem_of_getElem? (i := 365) rfl) rfl
theorem wi_366 : Cond.code yX10_out cX10_out 3 (some FieldType.int) ∈ tb := tb_of (List.mem_of_getElem? (i := 366) rfl) rfl
theorem wi_367 : Cond.methodLink RX10 60 yX1_knows ∈ tb := tb_of (List.mem_of_getElem? (i := 367) rfl) rfl
theorem wi_368 : Cond.instanceMethod yX1_knows ∈ tb := tb_of (List.mem_of_getElem? (i := 368) rfl) rfl
theorem wi_369 : Cond.selects RX1 yX1_knows yX1_knows ∈ tb := tb_of (List.mem_of_getElem? (i := 369) rfl) rfl
theorem wi_370 : Cond.code yX1_knows cX1_knows 2 (some FieldType.boolean) ∈ tb := tb_of (List.mem_of_getElem? (i := 370) rfl) rfl
theorem wi_371 : Cond.methodLink RX10 64 yX1_move ∈ tb := tb_of (List.mem_of_getElem? (i := 371) rfl) rfl
theorem wi_372 : Cond.instanceMethod yX1_move ∈ tb := tb_of (List.mem_of_getElem? (i := 372) rfl) rfl
theorem wi_373 : Cond.selects RX1 yX1_move yX1_move ∈ tb := tb_of (List.mem_of_getElem? (i := 373) rfl) rfl
theorem wi_374 : Cond.code yX1_move cX1_move 3 (some FieldType.int) ∈ tb := tb_of (List.mem_of_getElem? (i := 374) rfl) rfl
theorem wi_375 : Cond.methodLink RX1 49 yX9_move ∈ tb := tb_of (List.mem_of_getElem? (i := 375) rfl) rfl
theorem wi_376 : Cond.instanceMethod yX9_move ∈ tb := tb_of (List.mem_of_getElem? (i := 376) rfl) rfl
theorem wi_377 : Cond.selects RX9 yX9_move yX9_move ∈ tb := tb_of (List.mem_of_getElem? (i := 377) rfl) rfl
theorem wi_378 : Cond.code yX9_move cX9_move 3 (some FieldType.boolean) ∈ tb := tb_of (List.mem_of_getElem? (i := 378) rfl) rfl
theorem wi_379 : Cond.methodLink RX9 41 yX9_beginAnew ∈ tb := tb_of (List.mem_of_getElem? (i := 379) rfl) rfl
theorem wi_380 : Cond.methodLink RL 23 yX10_field ∈ tb := tb_of (List.mem_of_getElem? (i := 380) rfl) rfl
theorem wi_381 : Cond.instanceMethod yX10_field ∈ tb := tb_of (List.mem_of_getElem? (i := 381) rfl) rfl
theorem wi_382 : Cond.selects RX10 yX10_field yX10_field ∈ tb := tb_of (List.mem_of_getElem? (i := 382) rfl) rfl
theorem wi_383 : Cond.code yX10_field cX10_field 2 (some FieldType.int) ∈ tb := tb_of (List.mem_of_getElem? (i := 383) rfl) rfl
theorem wi_384 : Cond.methodLink RX10 68 yX1_turn ∈ tb := tb_of (List.mem_of_getElem? (i := 384) rfl) rfl
theorem wi_385 : Cond.instanceMethod yX1_turn ∈ tb := tb_of (List.mem_of_getElem? (i := 385) rfl) rfl
theorem wi_386 : Cond.selects RX1 yX1_turn yX1_turn ∈ tb := tb_of (List.mem_of_getElem? (i := 386) rfl) rfl
theorem wi_387 : Cond.code yX1_turn cX1_turn 3 (some FieldType.int) ∈ tb := tb_of (List.mem_of_getElem? (i := 387) rfl) rfl
theorem wi_388 : Cond.methodLink RL 28 yX10_bits ∈ tb := tb_of (List.mem_of_getElem? (i := 388) rfl) rfl
theorem wi_389 : Cond.instanceMethod yX10_bits ∈ tb := tb_of (List.mem_of_getElem? (i := 389) rfl) rfl
theorem wi_390 : Cond.selects RX10 yX10_bits yX10_bits ∈ tb := tb_of (List.mem_of_getElem? (i := 390) rfl) rfl
theorem wi_391 : Cond.code yX10_bits cX10_bits 3 (some FieldType.int) ∈ tb := tb_of (List.mem_of_getElem? (i := 391) rfl) rfl
theorem wi_392 : Cond.methodLink RX10 72 yX8_hasRoomFor ∈ tb := tb_of (List.mem_of_getElem? (i := 392) rfl) rfl
theorem wi_393 : Cond.instanceMethod yX8_hasRoomFor ∈ tb := tb_of (List.mem_of_getElem? (i := 393) rfl) rfl
theorem wi_394 : Cond.selects RX8 yX8_hasRoomFor yX8_hasRoomFor ∈ tb := tb_of (List.mem_of_getElem? (i := 394) rfl) rfl
theorem wi_395 : Cond.code yX8_hasRoomFor cX8_hasRoomFor 2 (some FieldType.boolean) ∈ tb := tb_of (List.mem_of_getElem? (i := 395) rfl) rfl
theorem wi_396 : Cond.methodLink RX10 75 yX8_addBits ∈ tb := tb_of (List.mem_of_getElem? (i := 396) rfl) rfl
theorem wi_397 : Cond.instanceMethod yX8_addBits ∈ tb := tb_of (List.mem_of_getElem? (i := 397) rfl) rfl
theorem wi_398 : Cond.selects RX8 yX8_addBits yX8_addBits ∈ tb := tb_of (List.mem_of_getElem? (i := 398) rfl) rfl
theorem wi_399 : Cond.code yX8_addBits cX8_addBits 4 (none : Option Jvm.ClassFile.FieldType) ∈ tb := tb_of (List.mem_of_getElem? (i := 399) rfl) rfl
theorem wi_400 : Cond.methodLink RL 33 yX10_octet ∈ tb := tb_of (List.mem_of_getElem? (i := 400) rfl) rfl
theorem wi_401 : Cond.instanceMethod yX10_octet ∈ tb := tb_of (List.mem_of_getElem? (i := 401) rfl) rfl
theorem wi_402 : Cond.selects RX10 yX10_octet yX10_octet ∈ tb := tb_of (List.mem_of_getElem? (i := 402) rfl) rfl
theorem wi_403 : Cond.code yX10_octet cX10_octet 2 (some FieldType.int) ∈ tb := tb_of (List.mem_of_getElem? (i := 403) rfl) rfl
theorem wi_404 : Cond.methodLink RX10 83 yX8_addOctet ∈ tb := tb_of (List.mem_of_getElem? (i := 404) rfl) rfl
theorem wi_405 : Cond.instanceMethod yX8_addOctet ∈ tb := tb_of (List.mem_of_getElem? (i := 405) rfl) rfl
theorem wi_406 : Cond.selects RX8 yX8_addOctet yX8_addOctet ∈ tb := tb_of (List.mem_of_getElem? (i := 406) rfl) rfl
theorem wi_407 : Cond.code yX8_addOctet cX8_addOctet 2 (none : Option Jvm.ClassFile.FieldType) ∈ tb := tb_of (List.mem_of_getElem? (i := 407) rfl) rfl
theorem wi_408 : Cond.methodLink RX8 19 yX3_octetsOf ∈ tb := tb_of (List.mem_of_getElem? (i := 408) rfl) rfl
theorem wi_409 : Cond.static yX3_octetsOf ∈ tb := tb_of (List.mem_of_getElem? (i := 409) rfl) rfl
theorem wi_410 : Cond.code yX3_octetsOf cX3_octetsOf 10 (some FieldType.long) ∈ tb := tb_of (List.mem_of_getElem? (i := 410) rfl) rfl
theorem wi_411 : Cond.constantLong RX3 9 (255) ∈ tb := tb_of (List.mem_of_getElem? (i := 411) rfl) rfl
theorem wi_412 : Cond.methodLink RX3 11 yJ13_bitCount_95d88 ∈ tb := tb_of (List.mem_of_getElem? (i := 412) rfl) rfl
theorem wi_413 : Cond.static yJ13_bitCount_95d88 ∈ tb := tb_of (List.mem_of_getElem? (i := 413) rfl) rfl
theorem wi_414 : Cond.code yJ13_bitCount_95d88 cJ13_bitCount_95d88 2 (some FieldType.int) ∈ tb := tb_of (List.mem_of_getElem? (i := 414) rfl) rfl
theorem wi_415 : Cond.constantLong RJ13 314 (6148914691236517205) ∈ tb := tb_of (List.mem_of_getElem? (i := 415) rfl) rfl
theorem wi_416 : Cond.constantLong RJ13 316 (3689348814741910323) ∈ tb := tb_of (List.mem_of_getElem? (i := 416) rfl) rfl
theorem wi_417 : Cond.constantLong RJ13 318 (1085102592571150095) ∈ tb := tb_of (List.mem_of_getElem? (i := 417) rfl) rfl
theorem wi_418 : Cond.methodLink RX8 25 yX8_addBits ∈ tb := tb_of (List.mem_of_getElem? (i := 418) rfl) rfl
theorem wi_419 : Cond.methodLink RL 38 yX10_check ∈ tb := tb_of (List.mem_of_getElem? (i := 419) rfl) rfl
theorem wi_420 : Cond.instanceMethod yX10_check ∈ tb := tb_of (List.mem_of_getElem? (i := 420) rfl) rfl
theorem wi_421 : Cond.selects RX10 yX10_check yX10_check ∈ tb := tb_of (List.mem_of_getElem? (i := 421) rfl) rfl
theorem wi_422 : Cond.code yX10_check cX10_check 2 (some FieldType.int) ∈ tb := tb_of (List.mem_of_getElem? (i := 422) rfl) rfl
theorem wi_423 : Cond.methodLink RX10 86 yX8_beginsWithOctets ∈ tb := tb_of (List.mem_of_getElem? (i := 423) rfl) rfl
theorem wi_424 : Cond.instanceMethod yX8_beginsWithOctets ∈ tb := tb_of (List.mem_of_getElem? (i := 424) rfl) rfl
theorem wi_425 : Cond.selects RX8 yX8_beginsWithOctets yX8_beginsWithOctets ∈ tb := tb_of (List.mem_of_getElem? (i := 425) rfl) rfl
theorem wi_426 : Cond.code yX8_beginsWithOctets cX8_beginsWithOctets 3 (some FieldType.boolean) ∈ tb := tb_of (List.mem_of_getElem? (i := 426) rfl) rfl
theorem wi_427 : Cond.methodLink RX8 37 yX8_valueAt ∈ tb := tb_of (List.mem_of_getElem? (i := 427) rfl) rfl
theorem wi_428 : Cond.instanceMethod yX8_valueAt ∈ tb := tb_of (List.mem_of_getElem? (i := 428) rfl) rfl
theorem wi_429 : Cond.selects RX8 yX8_valueAt yX8_valueAt ∈ tb := tb_of (List.mem_of_getElem? (i := 429) rfl) rfl
theorem wi_430 : Cond.code yX8_valueAt cX8_valueAt 5 (some FieldType.int) ∈ tb := tb_of (List.mem_of_getElem? (i := 430) rfl) rfl
theorem wi_431 : Cond.methodLink RX8 41 yJ6_bitCount_0f7a4 ∈ tb := tb_of (List.mem_of_getElem? (i := 431) rfl) rfl
theorem wi_432 : Cond.static yJ6_bitCount_0f7a4 ∈ tb := tb_of (List.mem_of_getElem? (i := 432) rfl) rfl
theorem wi_433 : Cond.code yJ6_bitCount_0f7a4 cJ6_bitCount_0f7a4 1 (some FieldType.int) ∈ tb := tb_of (List.mem_of_getElem? (i := 433) rfl) rfl
theorem wi_434 : Cond.constant RJ6 265 (1431655765) ∈ tb := tb_of (List.mem_of_getElem? (i := 434) rfl) rfl
theorem wi_435 : Cond.constant RJ6 266 (858993459) ∈ tb := tb_of (List.mem_of_getElem? (i := 435) rfl) rfl
theorem wi_436 : Cond.constant RJ6 267 (252645135) ∈ tb := tb_of (List.mem_of_getElem? (i := 436) rfl) rfl
theorem wi_437 : Cond.methodLink RX10 89 yX8_addCheck ∈ tb := tb_of (List.mem_of_getElem? (i := 437) rfl) rfl
theorem wi_438 : Cond.instanceMethod yX8_addCheck ∈ tb := tb_of (List.mem_of_getElem? (i := 438) rfl) rfl
theorem wi_439 : Cond.selects RX8 yX8_addCheck yX8_addCheck ∈ tb := tb_of (List.mem_of_getElem? (i := 439) rfl) rfl
theorem wi_440 : Cond.code yX8_addCheck cX8_addCheck 2 (none : Option Jvm.ClassFile.FieldType) ∈ tb := tb_of (List.mem_of_getElem? (i := 440) rfl) rfl
theorem wi_441 : Cond.methodLink RX8 29 yX8_checkOf ∈ tb := tb_of (List.mem_of_getElem? (i := 441) rfl) rfl
theorem wi_442 : Cond.instanceMethod yX8_checkOf ∈ tb := tb_of (List.mem_of_getElem? (i := 442) rfl) rfl
theorem wi_443 : Cond.selects RX8 yX8_checkOf yX8_checkOf ∈ tb := tb_of (List.mem_of_getElem? (i := 443) rfl) rfl
theorem wi_444 : Cond.code yX8_checkOf cX8_checkOf 4 (some FieldType.int) ∈ tb := tb_of (List.mem_of_getElem? (i := 444) rfl) rfl
theorem wi_445 : Cond.methodLink RX8 46 yX3_checkStep ∈ tb := tb_of (List.mem_of_getElem? (i := 445) rfl) rfl
theorem wi_446 : Cond.static yX3_checkStep ∈ tb := tb_of (List.mem_of_getElem? (i := 446) rfl) rfl
theorem wi_447 : Cond.code yX3_checkStep cX3_checkStep 3 (some FieldType.int) ∈ tb := tb_of (List.mem_of_getElem? (i := 447) rfl) rfl
theorem wi_448 : Cond.constant RX3 17 (65535) ∈ tb := tb_of (List.mem_of_getElem? (i := 448) rfl) rfl
theorem wi_449 : Cond.methodLink RX8 33 yX8_addOctet ∈ tb := tb_of (List.mem_of_getElem? (i := 449) rfl) rfl
set_option maxRecDepth 20000 in
theorem wi_450 : Cond.methodLink RL 43 yX10_go ∈ tb := tb_of (List.mem_of_getElem? (i := 450) rfl) rfl
set_option maxRecDepth 20000 in
theorem wi_451 : Cond.instanceMethod yX10_go ∈ tb := tb_of (List.mem_of_getElem? (i := 451) rfl) rfl
set_option maxRecDepth 20000 in
theorem wi_452 : Cond.selects RX10 yX10_go yX10_go ∈ tb := tb_of (List.mem_of_getElem? (i := 452) rfl) rfl
set_option maxRecDepth 20000 in
theorem wi_453 : Cond.code yX10_go cX10_go 2 (some FieldType.int) ∈ tb := tb_of (List.mem_of_getElem? (i := 453) rfl) rfl
set_option maxRecDepth 20000 in
theorem wi_454 : Cond.methodLink RX10 92 yX1_send ∈ tb := tb_of (List.mem_of_getElem? (i := 454) rfl) rfl
set_option maxRecDepth 20000 in
theorem wi_455 : Cond.instanceMethod yX1_send ∈ tb := tb_of (List.mem_of_getElem? (i := 455) rfl) rfl
set_option maxRecDepth 20000 in
theorem wi_456 : Cond.selects RX1 yX1_send yX1_send ∈ tb := tb_of (List.mem_of_getElem? (i := 456) rfl) rfl
set_option maxRecDepth 20000 in
theorem wi_457 : Cond.code yX1_send cX1_send 5 (some FieldType.int) ∈ tb := tb_of (List.mem_of_getElem? (i := 457) rfl) rfl
set_option maxRecDepth 20000 in
theorem wi_458 : Cond.methodLink RX1 60 yX2_clear ∈ tb := tb_of (List.mem_of_getElem? (i := 458) rfl) rfl
set_option maxRecDepth 20000 in
theorem wi_459 : Cond.instanceMethod yX2_clear ∈ tb := tb_of (List.mem_of_getElem? (i := 459) rfl) rfl
set_option maxRecDepth 20000 in
theorem wi_460 : Cond.selects RX2 yX2_clear yX2_clear ∈ tb := tb_of (List.mem_of_getElem? (i := 460) rfl) rfl
set_option maxRecDepth 20000 in
theorem wi_461 : Cond.code yX2_clear cX2_clear 1 (none : Option Jvm.ClassFile.FieldType) ∈ tb := tb_of (List.mem_of_getElem? (i := 461) rfl) rfl
set_option maxRecDepth 20000 in
theorem wi_462 : Cond.methodLink RX1 65 yX4_read ∈ tb := tb_of (List.mem_of_getElem? (i := 462) rfl) rfl
set_option maxRecDepth 20000 in
theorem wi_463 : Cond.instanceMethod yX4_read ∈ tb := tb_of (List.mem_of_getElem? (i := 463) rfl) rfl
set_option maxRecDepth 20000 in
theorem wi_464 : Cond.selects RX4 yX4_read yX4_read ∈ tb := tb_of (List.mem_of_getElem? (i := 464) rfl) rfl
set_option maxRecDepth 20000 in
theorem wi_465 : Cond.code yX4_read cX4_read 5 (none : Option Jvm.ClassFile.FieldType) ∈ tb := tb_of (List.mem_of_getElem? (i := 465) rfl) rfl
set_option maxRecDepth 20000 in
theorem wi_466 : Cond.methodLink RX4 26 yX8_valueAt ∈ tb := tb_of (List.mem_of_getElem? (i := 466) rfl) rfl
set_option maxRecDepth 20000 in
theorem wi_467 : Cond.methodLink RX4 33 yX4_levelOf ∈ tb := tb_of (List.mem_of_getElem? (i := 467) rfl) rfl
set_option maxRecDepth 20000 in
theorem wi_468 : Cond.static yX4_levelOf ∈ tb := tb_of (List.mem_of_getElem? (i := 468) rfl) rfl
set_option maxRecDepth 20000 in
theorem wi_469 : Cond.code yX4_levelOf cX4_levelOf 2 (some FieldType.int) ∈ tb := tb_of (List.mem_of_getElem? (i := 469) rfl) rfl
set_option maxRecDepth 20000 in
theorem wi_470 : Cond.methodLink RX4 87 yX4_levelByte ∈ tb := tb_of (List.mem_of_getElem? (i := 470) rfl) rfl
set_option maxRecDepth 20000 in
theorem wi_471 : Cond.static yX4_levelByte ∈ tb := tb_of (List.mem_of_getElem? (i := 471) rfl) rfl
set_option maxRecDepth 20000 in
theorem wi_472 : Cond.code yX4_levelByte cX4_levelByte 1 (some FieldType.int) ∈ tb := tb_of (List.mem_of_getElem? (i := 472) rfl) rfl
set_option maxRecDepth 20000 in
theorem wi_473 : Cond.methodLink RX4 40 yX4_kindOfShort ∈ tb := tb_of (List.mem_of_getElem? (i := 473) rfl) rfl
set_option maxRecDepth 20000 in
theorem wi_474 : Cond.static yX4_kindOfShort ∈ tb := tb_of (List.mem_of_getElem? (i := 474) rfl) rfl
set_option maxRecDepth 20000 in
theorem wi_475 : Cond.code yX4_kindOfShort cX4_kindOfShort 1 (some (FieldType.object "TagField$Kind")) ∈ tb := tb_of (List.mem_of_getElem? (i := 475) rfl) rfl
set_option maxRecDepth 20000 in
theorem wi_480 : Cond.methodLink RX4 44 yX8_beginsWithOctets ∈ tb := tb_of (List.mem_of_getElem? (i := 480) rfl) rfl
set_option maxRecDepth 20000 in
theorem wi_483 : Cond.methodLink RX4 51 yX4_readTold ∈ tb := tb_of (List.mem_of_getElem? (i := 483) rfl) rfl
set_option maxRecDepth 20000 in
theorem wi_485 : Cond.instanceMethod yX4_readTold ∈ tb := tb_of (List.mem_of_getElem? (i := 485) rfl) rfl
set_option maxRecDepth 20000 in
theorem wi_486 : Cond.code yX4_readTold cX4_readTold 5 (none : Option Jvm.ClassFile.FieldType) ∈ tb := tb_of (List.mem_of_getElem? (i := 486) rfl) rfl
set_option maxRecDepth 20000 in
theorem wi_487 : Cond.methodLink RX4 55 yX8_checkOf ∈ tb := tb_of (List.mem_of_getElem? (i := 487) rfl) rfl
set_option maxRecDepth 20000 in
theorem wi_490 : Cond.methodLink RX4 61 yX4_kindOfCommand ∈ tb := tb_of (List.mem_of_getElem? (i := 490) rfl) rfl
set_option maxRecDepth 20000 in
theorem wi_492 : Cond.instanceMethod yX4_kindOfCommand ∈ tb := tb_of (List.mem_of_getElem? (i := 492) rfl) rfl
set_option maxRecDepth 20000 in
theorem wi_493 : Cond.code yX4_kindOfCommand cX4_kindOfCommand 3 (some (FieldType.object "TagField$Kind")) ∈ tb := tb_of (List.mem_of_getElem? (i := 493) rfl) rfl
set_option maxRecDepth 20000 in
theorem wi_500 : Cond.methodLink RX1 69 yX9_hear ∈ tb := tb_of (List.mem_of_getElem? (i := 500) rfl) rfl
set_option maxRecDepth 20000 in
theorem wi_501 : Cond.instanceMethod yX9_hear ∈ tb := tb_of (List.mem_of_getElem? (i := 501) rfl) rfl
set_option maxRecDepth 20000 in
theorem wi_502 : Cond.selects RX9 yX9_hear yX9_hear ∈ tb := tb_of (List.mem_of_getElem? (i := 502) rfl) rfl
set_option maxRecDepth 20000 in
theorem wi_503 : Cond.code yX9_hear cX9_hear 3 (some (FieldType.object "TagField$Reply")) ∈ tb := tb_of (List.mem_of_getElem? (i := 503) rfl) rfl
set_option maxRecDepth 20000 in
theorem wi_506 : Cond.methodLink RX9 59 yX9_becomeReady ∈ tb := tb_of (List.mem_of_getElem? (i := 506) rfl) rfl
set_option maxRecDepth 20000 in
theorem wi_508 : Cond.instanceMethod yX9_becomeReady ∈ tb := tb_of (List.mem_of_getElem? (i := 508) rfl) rfl
set_option maxRecDepth 20000 in
theorem wi_509 : Cond.code yX9_becomeReady cX9_becomeReady 2 (some (FieldType.object "TagField$Reply")) ∈ tb := tb_of (List.mem_of_getElem? (i := 509) rfl) rfl
set_option maxRecDepth 20000 in
theorem wi_512 : Cond.methodLink RX9 82 yX9_become ∈ tb := tb_of (List.mem_of_getElem? (i := 512) rfl) rfl
set_option maxRecDepth 20000 in
theorem wi_514 : Cond.instanceMethod yX9_become ∈ tb := tb_of (List.mem_of_getElem? (i := 514) rfl) rfl
set_option maxRecDepth 20000 in
theorem wi_515 : Cond.code yX9_become cX9_become 3 (some (FieldType.object "TagField$Reply")) ∈ tb := tb_of (List.mem_of_getElem? (i := 515) rfl) rfl
set_option maxRecDepth 20000 in
theorem wi_518 : Cond.methodLink RX9 69 yX9_hearReady ∈ tb := tb_of (List.mem_of_getElem? (i := 518) rfl) rfl
set_option maxRecDepth 20000 in
theorem wi_520 : Cond.instanceMethod yX9_hearReady ∈ tb := tb_of (List.mem_of_getElem? (i := 520) rfl) rfl
set_option maxRecDepth 20000 in
theorem wi_521 : Cond.code yX9_hearReady cX9_hearReady 3 (some (FieldType.object "TagField$Reply")) ∈ tb := tb_of (List.mem_of_getElem? (i := 521) rfl) rfl
set_option maxRecDepth 20000 in
theorem wi_523 : Cond.methodLink RX9 93 yX9_showsWhatIsTold ∈ tb := tb_of (List.mem_of_getElem? (i := 523) rfl) rfl
set_option maxRecDepth 20000 in
theorem wi_525 : Cond.instanceMethod yX9_showsWhatIsTold ∈ tb := tb_of (List.mem_of_getElem? (i := 525) rfl) rfl
set_option maxRecDepth 20000 in
theorem wi_526 : Cond.code yX9_showsWhatIsTold cX9_showsWhatIsTold 4 (some FieldType.boolean) ∈ tb := tb_of (List.mem_of_getElem? (i := 526) rfl) rfl
set_option maxRecDepth 20000 in
theorem wi_530 : Cond.methodLink RX9 103 yX9_becomeChosen ∈ tb := tb_of (List.mem_of_getElem? (i := 530) rfl) rfl
set_option maxRecDepth 20000 in
theorem wi_532 : Cond.instanceMethod yX9_becomeChosen ∈ tb := tb_of (List.mem_of_getElem? (i := 532) rfl) rfl
set_option maxRecDepth 20000 in
theorem wi_533 : Cond.code yX9_becomeChosen cX9_becomeChosen 1 (some (FieldType.object "TagField$Reply")) ∈ tb := tb_of (List.mem_of_getElem? (i := 533) rfl) rfl
set_option maxRecDepth 20000 in
theorem wi_538 : Cond.methodLink RX9 107 yX9_goBack ∈ tb := tb_of (List.mem_of_getElem? (i := 538) rfl) rfl
set_option maxRecDepth 20000 in
theorem wi_540 : Cond.instanceMethod yX9_goBack ∈ tb := tb_of (List.mem_of_getElem? (i := 540) rfl) rfl
set_option maxRecDepth 20000 in
theorem wi_541 : Cond.code yX9_goBack cX9_goBack 1 (some (FieldType.object "TagField$Reply")) ∈ tb := tb_of (List.mem_of_getElem? (i := 541) rfl) rfl
set_option maxRecDepth 20000 in
theorem wi_542 : Cond.methodLink RX9 73 yX9_hearActive ∈ tb := tb_of (List.mem_of_getElem? (i := 542) rfl) rfl
set_option maxRecDepth 20000 in
theorem wi_544 : Cond.instanceMethod yX9_hearActive ∈ tb := tb_of (List.mem_of_getElem? (i := 544) rfl) rfl
set_option maxRecDepth 20000 in
theorem wi_545 : Cond.code yX9_hearActive cX9_hearActive 2 (some (FieldType.object "TagField$Reply")) ∈ tb := tb_of (List.mem_of_getElem? (i := 545) rfl) rfl
set_option maxRecDepth 20000 in
theorem wi_553 : Cond.methodLink RX1 73 yX9_say ∈ tb := tb_of (List.mem_of_getElem? (i := 553) rfl) rfl
set_option maxRecDepth 20000 in
theorem wi_554 : Cond.instanceMethod yX9_say ∈ tb := tb_of (List.mem_of_getElem? (i := 554) rfl) rfl
set_option maxRecDepth 20000 in
theorem wi_555 : Cond.selects RX9 yX9_say yX9_say ∈ tb := tb_of (List.mem_of_getElem? (i := 555) rfl) rfl
set_option maxRecDepth 20000 in
theorem wi_556 : Cond.code yX9_say cX9_say 9 (none : Option Jvm.ClassFile.FieldType) ∈ tb := tb_of (List.mem_of_getElem? (i := 556) rfl) rfl
set_option maxRecDepth 20000 in
theorem wi_560 : Cond.sameMethod "TagField$Reply" "java/lang/Enum" "ordinal" "()I" ∈ tb := tb_of (List.mem_of_getElem? (i := 560) rfl) rfl
set_option maxRecDepth 20000 in
theorem wi_561 : Cond.declares yJx29ce0_ordinal_8abf5 ∈ tb := tb_of (List.mem_of_getElem? (i := 561) rfl) rfl
set_option maxRecDepth 20000 in
theorem wi_563 : Cond.instanceMethod yJx29ce0_ordinal_8abf5 ∈ tb := tb_of (List.mem_of_getElem? (i := 563) rfl) rfl
set_option maxRecDepth 20000 in
theorem wi_565 : Cond.methodLink RX9 142 yX3_octetsOf ∈ tb := tb_of (List.mem_of_getElem? (i := 565) rfl) rfl
set_option maxRecDepth 20000 in
theorem wi_566 : Cond.methodLink RX9 148 yX2_lay ∈ tb := tb_of (List.mem_of_getElem? (i := 566) rfl) rfl
set_option maxRecDepth 20000 in
theorem wi_567 : Cond.instanceMethod yX2_lay ∈ tb := tb_of (List.mem_of_getElem? (i := 567) rfl) rfl
set_option maxRecDepth 20000 in
theorem wi_568 : Cond.selects RX2 yX2_lay yX2_lay ∈ tb := tb_of (List.mem_of_getElem? (i := 568) rfl) rfl
set_option maxRecDepth 20000 in
theorem wi_569 : Cond.code yX2_lay cX2_lay 6 (none : Option Jvm.ClassFile.FieldType) ∈ tb := tb_of (List.mem_of_getElem? (i := 569) rfl) rfl
set_option maxRecDepth 20000 in
theorem wi_570 : Cond.constantLong RX2 22 (-1) ∈ tb := tb_of (List.mem_of_getElem? (i := 570) rfl) rfl
set_option maxRecDepth 20000 in
theorem wi_571 : Cond.methodLink RX2 24 yJ9_max_7cf53 ∈ tb := tb_of (List.mem_of_getElem? (i := 571) rfl) rfl
set_option maxRecDepth 20000 in
theorem wi_572 : Cond.constantLong RX9 154 (4) ∈ tb := tb_of (List.mem_of_getElem? (i := 572) rfl) rfl
set_option maxRecDepth 20000 in
theorem wi_573 : Cond.methodLink RX9 156 yX3_checkedOctetsOf ∈ tb := tb_of (List.mem_of_getElem? (i := 573) rfl) rfl
set_option maxRecDepth 20000 in
theorem wi_574 : Cond.static yX3_checkedOctetsOf ∈ tb := tb_of (List.mem_of_getElem? (i := 574) rfl) rfl
set_option maxRecDepth 20000 in
theorem wi_575 : Cond.code yX3_checkedOctetsOf cX3_checkedOctetsOf 5 (some FieldType.long) ∈ tb := tb_of (List.mem_of_getElem? (i := 575) rfl) rfl
set_option maxRecDepth 20000 in
theorem wi_576 : Cond.methodLink RX3 20 yX3_checkStep ∈ tb := tb_of (List.mem_of_getElem? (i := 576) rfl) rfl
set_option maxRecDepth 20000 in
theorem wi_577 : Cond.methodLink RX3 24 yX3_octetsOf ∈ tb := tb_of (List.mem_of_getElem? (i := 577) rfl) rfl
set_option maxRecDepth 20000 in
theorem wi_578 : Cond.constantLong RX9 159 (32) ∈ tb := tb_of (List.mem_of_getElem? (i := 578) rfl) rfl
set_option maxRecDepth 20000 in
theorem wi_579 : Cond.constantLong RX9 164 (194) ∈ tb := tb_of (List.mem_of_getElem? (i := 579) rfl) rfl
set_option maxRecDepth 20000 in
theorem wi_580 : Cond.methodLink RX10 96 yX8_clear ∈ tb := tb_of (List.mem_of_getElem? (i := 580) rfl) rfl
set_option maxRecDepth 20000 in
theorem wi_581 : Cond.instanceMethod yX8_clear ∈ tb := tb_of (List.mem_of_getElem? (i := 581) rfl) rfl
set_option maxRecDepth 20000 in
theorem wi_582 : Cond.selects RX8 yX8_clear yX8_clear ∈ tb := tb_of (List.mem_of_getElem? (i := 582) rfl) rfl
set_option maxRecDepth 20000 in
theorem wi_583 : Cond.code yX8_clear cX8_clear 1 (none : Option Jvm.ClassFile.FieldType) ∈ tb := tb_of (List.mem_of_getElem? (i := 583) rfl) rfl
set_option maxRecDepth 20000 in
theorem wi_584 : Cond.methodLink RL 47 yX10_answer ∈ tb := tb_of (List.mem_of_getElem? (i := 584) rfl) rfl
set_option maxRecDepth 20000 in
theorem wi_585 : Cond.instanceMethod yX10_answer ∈ tb := tb_of (List.mem_of_getElem? (i := 585) rfl) rfl
set_option maxRecDepth 20000 in
theorem wi_586 : Cond.selects RX10 yX10_answer yX10_answer ∈ tb := tb_of (List.mem_of_getElem? (i := 586) rfl) rfl
set_option maxRecDepth 20000 in
theorem wi_587 : Cond.code yX10_answer cX10_answer 2 (some FieldType.int) ∈ tb := tb_of (List.mem_of_getElem? (i := 587) rfl) rfl
set_option maxRecDepth 20000 in
theorem wi_588 : Cond.methodLink RX10 99 yX2_bitAt ∈ tb := tb_of (List.mem_of_getElem? (i := 588) rfl) rfl
set_option maxRecDepth 20000 in
theorem wi_589 : Cond.instanceMethod yX2_bitAt ∈ tb := tb_of (List.mem_of_getElem? (i := 589) rfl) rfl
set_option maxRecDepth 20000 in
theorem wi_590 : Cond.selects RX2 yX2_bitAt yX2_bitAt ∈ tb := tb_of (List.mem_of_getElem? (i := 590) rfl) rfl
set_option maxRecDepth 20000 in
theorem wi_591 : Cond.code yX2_bitAt cX2_bitAt 4 (some FieldType.int) ∈ tb := tb_of (List.mem_of_getElem? (i := 591) rfl) rfl
set_option maxRecDepth 20000 in
theorem wi_592 : Cond.methodLink RL 51 yX10_state ∈ tb := tb_of (List.mem_of_getElem? (i := 592) rfl) rfl
set_option maxRecDepth 20000 in
theorem wi_593 : Cond.instanceMethod yX10_state ∈ tb := tb_of (List.mem_of_getElem? (i := 593) rfl) rfl
set_option maxRecDepth 20000 in
theorem wi_594 : Cond.selects RX10 yX10_state yX10_state ∈ tb := tb_of (List.mem_of_getElem? (i := 594) rfl) rfl
set_option maxRecDepth 20000 in
theorem wi_595 : Cond.code yX10_state cX10_state 2 (some FieldType.int) ∈ tb := tb_of (List.mem_of_getElem? (i := 595) rfl) rfl
set_option maxRecDepth 20000 in
theorem wi_596 : Cond.methodLink RX10 103 yX1_stateOf ∈ tb := tb_of (List.mem_of_getElem? (i := 596) rfl) rfl
set_option maxRecDepth 20000 in
theorem wi_597 : Cond.instanceMethod yX1_stateOf ∈ tb := tb_of (List.mem_of_getElem? (i := 597) rfl) rfl
set_option maxRecDepth 20000 in
theorem wi_598 : Cond.selects RX1 yX1_stateOf yX1_stateOf ∈ tb := tb_of (List.mem_of_getElem? (i := 598) rfl) rfl
set_option maxRecDepth 20000 in
theorem wi_599 : Cond.code yX1_stateOf cX1_stateOf 2 (some FieldType.int) ∈ tb := tb_of (List.mem_of_getElem? (i := 599) rfl) rfl
set_option maxRecDepth 20000 in
theorem wi_600 : Cond.methodLink RX1 53 yX9_stateAndLevel ∈ tb := tb_of (List.mem_of_getElem? (i := 600) rfl) rfl
set_option maxRecDepth 20000 in
theorem wi_601 : Cond.instanceMethod yX9_stateAndLevel ∈ tb := tb_of (List.mem_of_getElem? (i := 601) rfl) rfl
set_option maxRecDepth 20000 in
theorem wi_602 : Cond.selects RX9 yX9_stateAndLevel yX9_stateAndLevel ∈ tb := tb_of (List.mem_of_getElem? (i := 602) rfl) rfl
set_option maxRecDepth 20000 in
theorem wi_603 : Cond.code yX9_stateAndLevel cX9_stateAndLevel 2 (some FieldType.int) ∈ tb := tb_of (List.mem_of_getElem? (i := 603) rfl) rfl
set_option maxRecDepth 20000 in
theorem wi_604 : Cond.methodLink RL 55 yX10_round ∈ tb := tb_of (List.mem_of_getElem? (i := 604) rfl) rfl
set_option maxRecDepth 20000 in
theorem wi_605 : Cond.instanceMethod yX10_round ∈ tb := tb_of (List.mem_of_getElem? (i := 605) rfl) rfl
set_option maxRecDepth 20000 in
theorem wi_606 : Cond.selects RX10 yX10_round yX10_round ∈ tb := tb_of (List.mem_of_getElem? (i := 606) rfl) rfl
set_option maxRecDepth 20000 in
theorem wi_607 : Cond.code yX10_round cX10_round 2 (some FieldType.int) ∈ tb := tb_of (List.mem_of_getElem? (i := 607) rfl) rfl
set_option maxRecDepth 20000 in
theorem wi_608 : Cond.methodLink RX10 106 yX6_forget ∈ tb := tb_of (List.mem_of_getElem? (i := 608) rfl) rfl
set_option maxRecDepth 20000 in
theorem wi_609 : Cond.instanceMethod yX6_forget ∈ tb := tb_of (List.mem_of_getElem? (i := 609) rfl) rfl
set_option maxRecDepth 20000 in
theorem wi_610 : Cond.selects RX6 yX6_forget yX6_forget ∈ tb := tb_of (List.mem_of_getElem? (i := 610) rfl) rfl
set_option maxRecDepth 20000 in
theorem wi_611 : Cond.code yX6_forget cX6_forget 1 (none : Option Jvm.ClassFile.FieldType) ∈ tb := tb_of (List.mem_of_getElem? (i := 611) rfl) rfl
set_option maxRecDepth 20000 in
theorem wi_612 : Cond.methodLink RX10 109 yX6_findOne ∈ tb := tb_of (List.mem_of_getElem? (i := 612) rfl) rfl
set_option maxRecDepth 20000 in
theorem wi_613 : Cond.instanceMethod yX6_findOne ∈ tb := tb_of (List.mem_of_getElem? (i := 613) rfl) rfl
set_option maxRecDepth 20000 in
theorem wi_614 : Cond.selects RX6 yX6_findOne yX6_findOne ∈ tb := tb_of (List.mem_of_getElem? (i := 614) rfl) rfl
set_option maxRecDepth 20000 in
theorem wi_615 : Cond.code yX6_findOne cX6_findOne 4 (some FieldType.boolean) ∈ tb := tb_of (List.mem_of_getElem? (i := 615) rfl) rfl
set_option maxRecDepth 20000 in
theorem wi_616 : Cond.methodLink RX6 38 yX8_clear ∈ tb := tb_of (List.mem_of_getElem? (i := 616) rfl) rfl
set_option maxRecDepth 20000 in
theorem wi_617 : Cond.methodLink RX6 41 yX8_addBits ∈ tb := tb_of (List.mem_of_getElem? (i := 617) rfl) rfl
set_option maxRecDepth 20000 in
theorem wi_618 : Cond.methodLink RX6 45 yX1_send ∈ tb := tb_of (List.mem_of_getElem? (i := 618) rfl) rfl
set_option maxRecDepth 20000 in
theorem wi_619 : Cond.methodLink RX6 51 yX6_searchLevel ∈ tb := tb_of (List.mem_of_getElem? (i := 619) rfl) rfl
set_option maxRecDepth 20000 in
theorem wi_621 : Cond.instanceMethod yX6_searchLevel ∈ tb := tb_of (List.mem_of_getElem? (i := 621) rfl) rfl
set_option maxRecDepth 20000 in
theorem wi_622 : Cond.code yX6_searchLevel cX6_searchLevel 4 (some FieldType.boolean) ∈ tb := tb_of (List.mem_of_getElem? (i := 622) rfl) rfl
set_option maxRecDepth 20000 in
theorem wi_623 : Cond.methodLink RX6 76 yX6_layOutSearch ∈ tb := tb_of (List.mem_of_getElem? (i := 623) rfl) rfl
set_option maxRecDepth 20000 in
theorem wi_625 : Cond.instanceMethod yX6_layOutSearch ∈ tb := tb_of (List.mem_of_getElem? (i := 625) rfl) rfl
set_option maxRecDepth 20000 in
theorem wi_626 : Cond.code yX6_layOutSearch cX6_layOutSearch 5 (none : Option Jvm.ClassFile.FieldType) ∈ tb := tb_of (List.mem_of_getElem? (i := 626) rfl) rfl
set_option maxRecDepth 20000 in
theorem wi_627 : Cond.methodLink RX6 82 yX4_levelByte ∈ tb := tb_of (List.mem_of_getElem? (i := 627) rfl) rfl
set_option maxRecDepth 20000 in
theorem wi_628 : Cond.methodLink RX6 88 yX8_addOctet ∈ tb := tb_of (List.mem_of_getElem? (i := 628) rfl) rfl
set_option maxRecDepth 20000 in
theorem wi_629 : Cond.methodLink RX6 91 yX6_knownByte ∈ tb := tb_of (List.mem_of_getElem? (i := 629) rfl) rfl
set_option maxRecDepth 20000 in
theorem wi_631 : Cond.instanceMethod yX6_knownByte ∈ tb := tb_of (List.mem_of_getElem? (i := 631) rfl) rfl
set_option maxRecDepth 20000 in
theorem wi_632 : Cond.code yX6_knownByte cX6_knownByte 2 (some FieldType.int) ∈ tb := tb_of (List.mem_of_getElem? (i := 632) rfl) rfl
set_option maxRecDepth 20000 in
theorem wi_633 : Cond.methodLink RX6 79 yX6_learn ∈ tb := tb_of (List.mem_of_getElem? (i := 633) rfl) rfl
set_option maxRecDepth 20000 in
theorem wi_635 : Cond.instanceMethod yX6_learn ∈ tb := tb_of (List.mem_of_getElem? (i := 635) rfl) rfl
set_option maxRecDepth 20000 in
theorem wi_636 : Cond.code yX6_learn cX6_learn 4 (none : Option Jvm.ClassFile.FieldType) ∈ tb := tb_of (List.mem_of_getElem? (i := 636) rfl) rfl
set_option maxRecDepth 20000 in
theorem wi_637 : Cond.methodLink RX6 94 yX2_bitAt ∈ tb := tb_of (List.mem_of_getElem? (i := 637) rfl) rfl
set_option maxRecDepth 20000 in
theorem wi_638 : Cond.methodLink RX6 55 yX6_choose ∈ tb := tb_of (List.mem_of_getElem? (i := 638) rfl) rfl
set_option maxRecDepth 20000 in
theorem wi_640 : Cond.instanceMethod yX6_choose ∈ tb := tb_of (List.mem_of_getElem? (i := 640) rfl) rfl
set_option maxRecDepth 20000 in
theorem wi_641 : Cond.code yX6_choose cX6_choose 4 (some FieldType.boolean) ∈ tb := tb_of (List.mem_of_getElem? (i := 641) rfl) rfl
set_option maxRecDepth 20000 in
theorem wi_642 : Cond.methodLink RX6 97 yX8_addCheck ∈ tb := tb_of (List.mem_of_getElem? (i := 642) rfl) rfl
set_option maxRecDepth 20000 in
theorem wi_643 : Cond.methodLink RX6 58 yX2_beginsWith ∈ tb := tb_of (List.mem_of_getElem? (i := 643) rfl) rfl
set_option maxRecDepth 20000 in
theorem wi_644 : Cond.instanceMethod yX2_beginsWith ∈ tb := tb_of (List.mem_of_getElem? (i := 644) rfl) rfl
set_option maxRecDepth 20000 in
theorem wi_645 : Cond.selects RX2 yX2_beginsWith yX2_beginsWith ∈ tb := tb_of (List.mem_of_getElem? (i := 645) rfl) rfl
set_option maxRecDepth 20000 in
theorem wi_646 : Cond.code yX2_beginsWith cX2_beginsWith 2 (some FieldType.boolean) ∈ tb := tb_of (List.mem_of_getElem? (i := 646) rfl) rfl
set_option maxRecDepth 20000 in
theorem wi_647 : Cond.constantLong RX2 30 (255) ∈ tb := tb_of (List.mem_of_getElem? (i := 647) rfl) rfl
set_option maxRecDepth 20000 in
theorem wi_648 : Cond.methodLink RX6 62 yX6_keepBytes ∈ tb := tb_of (List.mem_of_getElem? (i := 648) rfl) rfl
set_option maxRecDepth 20000 in
theorem wi_650 : Cond.instanceMethod yX6_keepBytes ∈ tb := tb_of (List.mem_of_getElem? (i := 650) rfl) rfl
set_option maxRecDepth 20000 in
theorem wi_651 : Cond.code yX6_keepBytes cX6_keepBytes 3 (none : Option Jvm.ClassFile.FieldType) ∈ tb := tb_of (List.mem_of_getElem? (i := 651) rfl) rfl
set_option maxRecDepth 20000 in
theorem wi_652 : Cond.methodLink RX6 65 yX6_halt ∈ tb := tb_of (List.mem_of_getElem? (i := 652) rfl) rfl
set_option maxRecDepth 20000 in
theorem wi_654 : Cond.instanceMethod yX6_halt ∈ tb := tb_of (List.mem_of_getElem? (i := 654) rfl) rfl
set_option maxRecDepth 20000 in
theorem wi_655 : Cond.code yX6_halt cX6_halt 2 (none : Option Jvm.ClassFile.FieldType) ∈ tb := tb_of (List.mem_of_getElem? (i := 655) rfl) rfl
set_option maxRecDepth 20000 in
theorem wi_656 : Cond.methodLink RL 59 yX10_found ∈ tb := tb_of (List.mem_of_getElem? (i := 656) rfl) rfl
set_option maxRecDepth 20000 in
theorem wi_657 : Cond.instanceMethod yX10_found ∈ tb := tb_of (List.mem_of_getElem? (i := 657) rfl) rfl
set_option maxRecDepth 20000 in
theorem wi_658 : Cond.selects RX10 yX10_found yX10_found ∈ tb := tb_of (List.mem_of_getElem? (i := 658) rfl) rfl
set_option maxRecDepth 20000 in
theorem wi_659 : Cond.code yX10_found cX10_found 3 (some FieldType.int) ∈ tb := tb_of (List.mem_of_getElem? (i := 659) rfl) rfl
set_option maxRecDepth 20000 in
theorem wi_660 : Cond.methodLink RX10 115 yX6_byteFound ∈ tb := tb_of (List.mem_of_getElem? (i := 660) rfl) rfl
set_option maxRecDepth 20000 in
theorem wi_661 : Cond.instanceMethod yX6_byteFound ∈ tb := tb_of (List.mem_of_getElem? (i := 661) rfl) rfl
set_option maxRecDepth 20000 in
theorem wi_662 : Cond.selects RX6 yX6_byteFound yX6_byteFound ∈ tb := tb_of (List.mem_of_getElem? (i := 662) rfl) rfl
set_option maxRecDepth 20000 in
theorem wi_663 : Cond.code yX6_byteFound cX6_byteFound 3 (some FieldType.int) ∈ tb := tb_of (List.mem_of_getElem? (i := 663) rfl) rfl
set_option maxRecDepth 20000 in
theorem wi_664 : Cond.methodLink RL 63 yX10_frames ∈ tb := tb_of (List.mem_of_getElem? (i := 664) rfl) rfl
set_option maxRecDepth 20000 in
theorem wi_665 : Cond.instanceMethod yX10_frames ∈ tb := tb_of (List.mem_of_getElem? (i := 665) rfl) rfl
set_option maxRecDepth 20000 in
theorem wi_666 : Cond.selects RX10 yX10_frames yX10_frames ∈ tb := tb_of (List.mem_of_getElem? (i := 666) rfl) rfl
set_option maxRecDepth 20000 in
theorem wi_667 : Cond.code yX10_frames cX10_frames 1 (some FieldType.int) ∈ tb := tb_of (List.mem_of_getElem? (i := 667) rfl) rfl
set_option maxRecDepth 20000 in
theorem wi_668 : Cond.classLink RL 10 RX11 ∈ tb := tb_of (List.mem_of_getElem? (i := 668) rfl) rfl
set_option maxRecDepth 20000 in
theorem wi_669 : Cond.instantiable RX11 29 ∈ tb := tb_of (List.mem_of_getElem? (i := 669) rfl) rfl
set_option maxRecDepth 20000 in
theorem wi_670 : Cond.methodLink RL 12 yX11_init ∈ tb := tb_of (List.mem_of_getElem? (i := 670) rfl) rfl
set_option maxRecDepth 20000 in
theorem wi_671 : Cond.instanceMethod yX11_init ∈ tb := tb_of (List.mem_of_getElem? (i := 671) rfl) rfl
set_option maxRecDepth 20000 in
theorem wi_672 : Cond.code yX11_init cX11_init 1 (none : Option Jvm.ClassFile.FieldType) ∈ tb := tb_of (List.mem_of_getElem? (i := 672) rfl) rfl
set_option maxRecDepth 20000 in
theorem wi_674 : Cond.fieldLink RX11 67 "TagFieldModel" "tags" "I" ∈ tb := tb_of (List.mem_of_getElem? (i := 674) rfl) rfl
set_option maxRecDepth 20000 in
theorem wi_675 : Cond.fieldLink RX11 7 "TagFieldModel" "size" "[I" ∈ tb := tb_of (List.mem_of_getElem? (i := 675) rfl) rfl
set_option maxRecDepth 20000 in
theorem wi_676 : Cond.fieldLink RX11 13 "TagFieldModel" "number" "[I" ∈ tb := tb_of (List.mem_of_getElem? (i := 676) rfl) rfl
set_option maxRecDepth 20000 in
theorem wi_677 : Cond.fieldLink RX11 16 "TagFieldModel" "gone" "[Z" ∈ tb := tb_of (List.mem_of_getElem? (i := 677) rfl) rfl
set_option maxRecDepth 20000 in
theorem wi_678 : Cond.fieldLink RX11 20 "TagFieldModel" "state" "[I" ∈ tb := tb_of (List.mem_of_getElem? (i := 678) rfl) rfl
set_option maxRecDepth 20000 in
theorem wi_679 : Cond.fieldLink RX11 23 "TagFieldModel" "level" "[I" ∈ tb := tb_of (List.mem_of_getElem? (i := 679) rfl) rfl
set_option maxRecDepth 20000 in
theorem wi_680 : Cond.fieldLink RX11 26 "TagFieldModel" "shown" "[I" ∈ tb := tb_of (List.mem_of_getElem? (i := 680) rfl) rfl
set_option maxRecDepth 20000 in
theorem wi_681 : Cond.fieldLink RX11 29 "TagFieldModel" "on" "Z" ∈ tb := tb_of (List.mem_of_getElem? (i := 681) rfl) rfl
set_option maxRecDepth 20000 in
theorem wi_682 : Cond.fieldLink RX11 79 "TagFieldModel" "typed" "I" ∈ tb := tb_of (List.mem_of_getElem? (i := 682) rfl) rfl
set_option maxRecDepth 20000 in
theorem wi_683 : Cond.fieldLink RX11 33 "TagFieldModel" "typedBits" "[I" ∈ tb := tb_of (List.mem_of_getElem? (i := 683) rfl) rfl
set_option maxRecDepth 20000 in
theorem wi_684 : Cond.fieldLink RX11 104 "TagFieldModel" "sent" "I" ∈ tb := tb_of (List.mem_of_getElem? (i := 684) rfl) rfl
set_option maxRecDepth 20000 in
theorem wi_685 : Cond.fieldLink RX11 36 "TagFieldModel" "sentBits" "[I" ∈ tb := tb_of (List.mem_of_getElem? (i := 685) rfl) rfl
set_option maxRecDepth 20000 in
theorem wi_686 : Cond.fieldLink RX11 39 "TagFieldModel" "sentBytes" "[I" ∈ tb := tb_of (List.mem_of_getElem? (i := 686) rfl) rfl
set_option maxRecDepth 20000 in
theorem wi_687 : Cond.fieldLink RX11 98 "TagFieldModel" "kind" "I" ∈ tb := tb_of (List.mem_of_getElem? (i := 687) rfl) rfl
set_option maxRecDepth 20000 in
theorem wi_688 : Cond.fieldLink RX11 107 "TagFieldModel" "kindLevel" "I" ∈ tb := tb_of (List.mem_of_getElem? (i := 688) rfl) rfl
set_option maxRecDepth 20000 in
theorem wi_689 : Cond.fieldLink RX11 101 "TagFieldModel" "told" "I" ∈ tb := tb_of (List.mem_of_getElem? (i := 689) rfl) rfl
set_option maxRecDepth 20000 in
theorem wi_690 : Cond.fieldLink RX11 42 "TagFieldModel" "toldBits" "[I" ∈ tb := tb_of (List.mem_of_getElem? (i := 690) rfl) rfl
set_option maxRecDepth 20000 in
theorem wi_691 : Cond.fieldLink RX11 110 "TagFieldModel" "said" "I" ∈ tb := tb_of (List.mem_of_getElem? (i := 691) rfl) rfl
set_option maxRecDepth 20000 in
theorem wi_692 : Cond.fieldLink RX11 45 "TagFieldModel" "saidBits" "[I" ∈ tb := tb_of (List.mem_of_getElem? (i := 692) rfl) rfl
set_option maxRecDepth 20000 in
theorem wi_693 : Cond.fieldLink RX11 139 "TagFieldModel" "heard" "I" ∈ tb := tb_of (List.mem_of_getElem? (i := 693) rfl) rfl
set_option maxRecDepth 20000 in
theorem wi_694 : Cond.fieldLink RX11 48 "TagFieldModel" "heardBits" "[I" ∈ tb := tb_of (List.mem_of_getElem? (i := 694) rfl) rfl
set_option maxRecDepth 20000 in
theorem wi_695 : Cond.fieldLink RX11 151 "TagFieldModel" "answered" "I" ∈ tb := tb_of (List.mem_of_getElem? (i := 695) rfl) rfl
set_option maxRecDepth 20000 in
theorem wi_696 : Cond.fieldLink RX11 51 "TagFieldModel" "answerBits" "[I" ∈ tb := tb_of (List.mem_of_getElem? (i := 696) rfl) rfl
set_option maxRecDepth 20000 in
theorem wi_697 : Cond.fieldLink RX11 136 "TagFieldModel" "frames" "I" ∈ tb := tb_of (List.mem_of_getElem? (i := 697) rfl) rfl
set_option maxRecDepth 20000 in
theorem wi_698 : Cond.fieldLink RX11 169 "TagFieldModel" "founds" "I" ∈ tb := tb_of (List.mem_of_getElem? (i := 698) rfl) rfl
set_option maxRecDepth 20000 in
theorem wi_699 : Cond.fieldLink RX11 54 "TagFieldModel" "foundSize" "[I" ∈ tb := tb_of (List.mem_of_getElem? (i := 699) rfl) rfl
set_option maxRecDepth 20000 in
theorem wi_700 : Cond.fieldLink RX11 57 "TagFieldModel" "foundBytes" "[I" ∈ tb := tb_of (List.mem_of_getElem? (i := 700) rfl) rfl
set_option maxRecDepth 20000 in
theorem wi_701 : Cond.fieldLink RX11 157 "TagFieldModel" "known" "I" ∈ tb := tb_of (List.mem_of_getElem? (i := 701) rfl) rfl
set_option maxRecDepth 20000 in
theorem wi_702 : Cond.fieldLink RX11 60 "TagFieldModel" "knownBits" "[I" ∈ tb := tb_of (List.mem_of_getElem? (i := 702) rfl) rfl
set_option maxRecDepth 20000 in
theorem wi_761 : Cond.superclass "TagFieldModel" "java/lang/Object" ∈ tb := tb_of (List.mem_of_getElem? (i := 761) rfl) rfl
set_option maxRecDepth 20000 in
theorem wi_762 : Cond.arrayClass .boolean ∈ tb := tb_of (List.mem_of_getElem? (i := 762) rfl) rfl
set_option maxRecDepth 20000 in
theorem wi_763 : Cond.methodLink RL 17 yX11_tag ∈ tb := tb_of (List.mem_of_getElem? (i := 763) rfl) rfl
set_option maxRecDepth 20000 in
theorem wi_764 : Cond.instanceMethod yX11_tag ∈ tb := tb_of (List.mem_of_getElem? (i := 764) rfl) rfl
set_option maxRecDepth 20000 in
theorem wi_765 : Cond.selects RX11 yX11_tag yX11_tag ∈ tb := tb_of (List.mem_of_getElem? (i := 765) rfl) rfl
set_option maxRecDepth 20000 in
theorem wi_766 : Cond.code yX11_tag cX11_tag 10 (some FieldType.int) ∈ tb := tb_of (List.mem_of_getElem? (i := 766) rfl) rfl
set_option maxRecDepth 20000 in
theorem wi_767 : Cond.methodLink RX11 63 yX11_byteFrom ∈ tb := tb_of (List.mem_of_getElem? (i := 767) rfl) rfl
set_option maxRecDepth 20000 in
theorem wi_769 : Cond.instanceMethod yX11_byteFrom ∈ tb := tb_of (List.mem_of_getElem? (i := 769) rfl) rfl
set_option maxRecDepth 20000 in
theorem wi_770 : Cond.code yX11_byteFrom cX11_byteFrom 6 (some FieldType.int) ∈ tb := tb_of (List.mem_of_getElem? (i := 770) rfl) rfl
set_option maxRecDepth 20000 in
theorem wi_771 : Cond.methodLink RX11 71 yX11_show ∈ tb := tb_of (List.mem_of_getElem? (i := 771) rfl) rfl
set_option maxRecDepth 20000 in
theorem wi_773 : Cond.instanceMethod yX11_show ∈ tb := tb_of (List.mem_of_getElem? (i := 773) rfl) rfl
set_option maxRecDepth 20000 in
theorem wi_774 : Cond.code yX11_show cX11_show 10 (none : Option Jvm.ClassFile.FieldType) ∈ tb := tb_of (List.mem_of_getElem? (i := 774) rfl) rfl
set_option maxRecDepth 20000 in
theorem wi_775 : Cond.methodLink RL 22 yX11_out ∈ tb := tb_of (List.mem_of_getElem? (i := 775) rfl) rfl
set_option maxRecDepth 20000 in
theorem wi_776 : Cond.instanceMethod yX11_out ∈ tb := tb_of (List.mem_of_getElem? (i := 776) rfl) rfl
set_option maxRecDepth 20000 in
theorem wi_777 : Cond.selects RX11 yX11_out yX11_out ∈ tb := tb_of (List.mem_of_getElem? (i := 777) rfl) rfl
set_option maxRecDepth 20000 in
theorem wi_778 : Cond.code yX11_out cX11_out 3 (some FieldType.int) ∈ tb := tb_of (List.mem_of_getElem? (i := 778) rfl) rfl
set_option maxRecDepth 20000 in
theorem wi_779 : Cond.methodLink RX11 75 yX11_isTag ∈ tb := tb_of (List.mem_of_getElem? (i := 779) rfl) rfl
set_option maxRecDepth 20000 in
theorem wi_781 : Cond.instanceMethod yX11_isTag ∈ tb := tb_of (List.mem_of_getElem? (i := 781) rfl) rfl
set_option maxRecDepth 20000 in
theorem wi_782 : Cond.code yX11_isTag cX11_isTag 2 (some FieldType.boolean) ∈ tb := tb_of (List.mem_of_getElem? (i := 782) rfl) rfl
set_option maxRecDepth 20000 in
theorem wi_783 : Cond.methodLink RL 27 yX11_field ∈ tb := tb_of (List.mem_of_getElem? (i := 783) rfl) rfl
set_option maxRecDepth 20000 in
theorem wi_784 : Cond.instanceMethod yX11_field ∈ tb := tb_of (List.mem_of_getElem? (i := 784) rfl) rfl
set_option maxRecDepth 20000 in
theorem wi_785 : Cond.selects RX11 yX11_field yX11_field ∈ tb := tb_of (List.mem_of_getElem? (i := 785) rfl) rfl
set_option maxRecDepth 20000 in
theorem wi_786 : Cond.code yX11_field cX11_field 3 (some FieldType.int) ∈ tb := tb_of (List.mem_of_getElem? (i := 786) rfl) rfl
set_option maxRecDepth 20000 in
theorem wi_787 : Cond.methodLink RL 32 yX11_bits ∈ tb := tb_of (List.mem_of_getElem? (i := 787) rfl) rfl
set_option maxRecDepth 20000 in
theorem wi_788 : Cond.instanceMethod yX11_bits ∈ tb := tb_of (List.mem_of_getElem? (i := 788) rfl) rfl
set_option maxRecDepth 20000 in
theorem wi_789 : Cond.selects RX11 yX11_bits yX11_bits ∈ tb := tb_of (List.mem_of_getElem? (i := 789) rfl) rfl
set_option maxRecDepth 20000 in
theorem wi_790 : Cond.code yX11_bits cX11_bits 4 (some FieldType.int) ∈ tb := tb_of (List.mem_of_getElem? (i := 790) rfl) rfl
set_option maxRecDepth 20000 in
theorem wi_791 : Cond.methodLink RL 37 yX11_octet ∈ tb := tb_of (List.mem_of_getElem? (i := 791) rfl) rfl
set_option maxRecDepth 20000 in
theorem wi_792 : Cond.instanceMethod yX11_octet ∈ tb := tb_of (List.mem_of_getElem? (i := 792) rfl) rfl
set_option maxRecDepth 20000 in
theorem wi_793 : Cond.selects RX11 yX11_octet yX11_octet ∈ tb := tb_of (List.mem_of_getElem? (i := 793) rfl) rfl
set_option maxRecDepth 20000 in
theorem wi_794 : Cond.code yX11_octet cX11_octet 2 (some FieldType.int) ∈ tb := tb_of (List.mem_of_getElem? (i := 794) rfl) rfl
set_option maxRecDepth 20000 in
theorem wi_795 : Cond.methodLink RX11 86 yX11_type ∈ tb := tb_of (List.mem_of_getElem? (i := 795) rfl) rfl
set_option maxRecDepth 20000 in
theorem wi_797 : Cond.instanceMethod yX11_type ∈ tb := tb_of (List.mem_of_getElem? (i := 797) rfl) rfl
set_option maxRecDepth 20000 in
theorem wi_798 : Cond.code yX11_type cX11_type 3 (some FieldType.int) ∈ tb := tb_of (List.mem_of_getElem? (i := 798) rfl) rfl
set_option maxRecDepth 20000 in
theorem wi_799 : Cond.methodLink RX11 82 yX11_parity ∈ tb := tb_of (List.mem_of_getElem? (i := 799) rfl) rfl
set_option maxRecDepth 20000 in
theorem wi_800 : Cond.static yX11_parity ∈ tb := tb_of (List.mem_of_getElem? (i := 800) rfl) rfl
set_option maxRecDepth 20000 in
theorem wi_801 : Cond.code yX11_parity cX11_parity 3 (some FieldType.int) ∈ tb := tb_of (List.mem_of_getElem? (i := 801) rfl) rfl
set_option maxRecDepth 20000 in
theorem wi_802 : Cond.methodLink RL 42 yX11_check ∈ tb := tb_of (List.mem_of_getElem? (i := 802) rfl) rfl
set_option maxRecDepth 20000 in
theorem wi_803 : Cond.instanceMethod yX11_check ∈ tb := tb_of (List.mem_of_getElem? (i := 803) rfl) rfl
set_option maxRecDepth 20000 in
theorem wi_804 : Cond.selects RX11 yX11_check yX11_check ∈ tb := tb_of (List.mem_of_getElem? (i := 804) rfl) rfl
set_option maxRecDepth 20000 in
theorem wi_805 : Cond.code yX11_check cX11_check 4 (some FieldType.int) ∈ tb := tb_of (List.mem_of_getElem? (i := 805) rfl) rfl
set_option maxRecDepth 20000 in
theorem wi_806 : Cond.methodLink RX11 90 yX11_read ∈ tb := tb_of (List.mem_of_getElem? (i := 806) rfl) rfl
set_option maxRecDepth 20000 in
theorem wi_807 : Cond.static yX11_read ∈ tb := tb_of (List.mem_of_getElem? (i := 807) rfl) rfl
set_option maxRecDepth 20000 in
theorem wi_808 : Cond.code yX11_read cX11_read 4 (some FieldType.int) ∈ tb := tb_of (List.mem_of_getElem? (i := 808) rfl) rfl
set_option maxRecDepth 20000 in
theorem wi_809 : Cond.methodLink RX11 94 yX11_checked ∈ tb := tb_of (List.mem_of_getElem? (i := 809) rfl) rfl
set_option maxRecDepth 20000 in
theorem wi_810 : Cond.static yX11_checked ∈ tb := tb_of (List.mem_of_getElem? (i := 810) rfl) rfl
set_option maxRecDepth 20000 in
theorem wi_811 : Cond.code yX11_checked cX11_checked 3 (some FieldType.int) ∈ tb := tb_of (List.mem_of_getElem? (i := 811) rfl) rfl
set_option maxRecDepth 20000 in
theorem wi_812 : Cond.constant RX11 89 (65535) ∈ tb := tb_of (List.mem_of_getElem? (i := 812) rfl) rfl
set_option maxRecDepth 20000 in
theorem wi_813 : Cond.methodLink RL 46 yX11_go ∈ tb := tb_of (List.mem_of_getElem? (i := 813) rfl) rfl
set_option maxRecDepth 20000 in
theorem wi_814 : Cond.instanceMethod yX11_go ∈ tb := tb_of (List.mem_of_getElem? (i := 814) rfl) rfl
set_option maxRecDepth 20000 in
theorem wi_815 : Cond.selects RX11 yX11_go yX11_go ∈ tb := tb_of (List.mem_of_getElem? (i := 815) rfl) rfl
set_option maxRecDepth 20000 in
theorem wi_816 : Cond.code yX11_go cX11_go 2 (some FieldType.int) ∈ tb := tb_of (List.mem_of_getElem? (i := 816) rfl) rfl
set_option maxRecDepth 20000 in
theorem wi_817 : Cond.methodLink RX11 148 yX11_send ∈ tb := tb_of (List.mem_of_getElem? (i := 817) rfl) rfl
set_option maxRecDepth 20000 in
theorem wi_819 : Cond.instanceMethod yX11_send ∈ tb := tb_of (List.mem_of_getElem? (i := 819) rfl) rfl
set_option maxRecDepth 20000 in
theorem wi_820 : Cond.code yX11_send cX11_send 3 (none : Option Jvm.ClassFile.FieldType) ∈ tb := tb_of (List.mem_of_getElem? (i := 820) rfl) rfl
set_option maxRecDepth 20000 in
theorem wi_821 : Cond.methodLink RX11 142 yX11_understand ∈ tb := tb_of (List.mem_of_getElem? (i := 821) rfl) rfl
set_option maxRecDepth 20000 in
theorem wi_823 : Cond.instanceMethod yX11_understand ∈ tb := tb_of (List.mem_of_getElem? (i := 823) rfl) rfl
set_option maxRecDepth 20000 in
theorem wi_824 : Cond.code yX11_understand cX11_understand 7 (none : Option Jvm.ClassFile.FieldType) ∈ tb := tb_of (List.mem_of_getElem? (i := 824) rfl) rfl
set_option maxRecDepth 20000 in
theorem wi_825 : Cond.methodLink RX11 145 yX11_hear ∈ tb := tb_of (List.mem_of_getElem? (i := 825) rfl) rfl
set_option maxRecDepth 20000 in
theorem wi_827 : Cond.instanceMethod yX11_hear ∈ tb := tb_of (List.mem_of_getElem? (i := 827) rfl) rfl
set_option maxRecDepth 20000 in
theorem wi_828 : Cond.code yX11_hear cX11_hear 6 (none : Option Jvm.ClassFile.FieldType) ∈ tb := tb_of (List.mem_of_getElem? (i := 828) rfl) rfl
set_option maxRecDepth 20000 in
theorem wi_829 : Cond.methodLink RX11 117 yX11_begin ∈ tb := tb_of (List.mem_of_getElem? (i := 829) rfl) rfl
set_option maxRecDepth 20000 in
theorem wi_831 : Cond.instanceMethod yX11_begin ∈ tb := tb_of (List.mem_of_getElem? (i := 831) rfl) rfl
set_option maxRecDepth 20000 in
theorem wi_832 : Cond.code yX11_begin cX11_begin 3 (none : Option Jvm.ClassFile.FieldType) ∈ tb := tb_of (List.mem_of_getElem? (i := 832) rfl) rfl
set_option maxRecDepth 20000 in
theorem wi_833 : Cond.methodLink RX11 113 yX11_say ∈ tb := tb_of (List.mem_of_getElem? (i := 833) rfl) rfl
set_option maxRecDepth 20000 in
theorem wi_835 : Cond.instanceMethod yX11_say ∈ tb := tb_of (List.mem_of_getElem? (i := 835) rfl) rfl
set_option maxRecDepth 20000 in
theorem wi_836 : Cond.code yX11_say cX11_say 3 (none : Option Jvm.ClassFile.FieldType) ∈ tb := tb_of (List.mem_of_getElem? (i := 836) rfl) rfl
set_option maxRecDepth 20000 in
theorem wi_837 : Cond.methodLink RX11 121 yX11_shows ∈ tb := tb_of (List.mem_of_getElem? (i := 837) rfl) rfl
set_option maxRecDepth 20000 in
theorem wi_839 : Cond.instanceMethod yX11_shows ∈ tb := tb_of (List.mem_of_getElem? (i := 839) rfl) rfl
set_option maxRecDepth 20000 in
theorem wi_840 : Cond.code yX11_shows cX11_shows 4 (some FieldType.boolean) ∈ tb := tb_of (List.mem_of_getElem? (i := 840) rfl) rfl
set_option maxRecDepth 20000 in
theorem wi_841 : Cond.methodLink RX11 124 yX11_sayRest ∈ tb := tb_of (List.mem_of_getElem? (i := 841) rfl) rfl
set_option maxRecDepth 20000 in
theorem wi_843 : Cond.instanceMethod yX11_sayRest ∈ tb := tb_of (List.mem_of_getElem? (i := 843) rfl) rfl
set_option maxRecDepth 20000 in
theorem wi_844 : Cond.code yX11_sayRest cX11_sayRest 6 (none : Option Jvm.ClassFile.FieldType) ∈ tb := tb_of (List.mem_of_getElem? (i := 844) rfl) rfl
set_option maxRecDepth 20000 in
theorem wi_845 : Cond.methodLink RX11 127 yX11_levels ∈ tb := tb_of (List.mem_of_getElem? (i := 845) rfl) rfl
set_option maxRecDepth 20000 in
theorem wi_847 : Cond.instanceMethod yX11_levels ∈ tb := tb_of (List.mem_of_getElem? (i := 847) rfl) rfl
set_option maxRecDepth 20000 in
theorem wi_848 : Cond.code yX11_levels cX11_levels 2 (some FieldType.int) ∈ tb := tb_of (List.mem_of_getElem? (i := 848) rfl) rfl
set_option maxRecDepth 20000 in
theorem wi_849 : Cond.methodLink RX11 130 yX11_sayChecked ∈ tb := tb_of (List.mem_of_getElem? (i := 849) rfl) rfl
set_option maxRecDepth 20000 in
theorem wi_851 : Cond.instanceMethod yX11_sayChecked ∈ tb := tb_of (List.mem_of_getElem? (i := 851) rfl) rfl
set_option maxRecDepth 20000 in
theorem wi_852 : Cond.code yX11_sayChecked cX11_sayChecked 4 (none : Option Jvm.ClassFile.FieldType) ∈ tb := tb_of (List.mem_of_getElem? (i := 852) rfl) rfl
set_option maxRecDepth 20000 in
theorem wi_853 : Cond.methodLink RX11 133 yX11_back ∈ tb := tb_of (List.mem_of_getElem? (i := 853) rfl) rfl
set_option maxRecDepth 20000 in
theorem wi_855 : Cond.instanceMethod yX11_back ∈ tb := tb_of (List.mem_of_getElem? (i := 855) rfl) rfl
set_option maxRecDepth 20000 in
theorem wi_856 : Cond.code yX11_back cX11_back 2 (none : Option Jvm.ClassFile.FieldType) ∈ tb := tb_of (List.mem_of_getElem? (i := 856) rfl) rfl
set_option maxRecDepth 20000 in
theorem wi_857 : Cond.methodLink RL 50 yX11_answer ∈ tb := tb_of (List.mem_of_getElem? (i := 857) rfl) rfl
set_option maxRecDepth 20000 in
theorem wi_858 : Cond.instanceMethod yX11_answer ∈ tb := tb_of (List.mem_of_getElem? (i := 858) rfl) rfl
set_option maxRecDepth 20000 in
theorem wi_859 : Cond.selects RX11 yX11_answer yX11_answer ∈ tb := tb_of (List.mem_of_getElem? (i := 859) rfl) rfl
set_option maxRecDepth 20000 in
theorem wi_860 : Cond.code yX11_answer cX11_answer 2 (some FieldType.int) ∈ tb := tb_of (List.mem_of_getElem? (i := 860) rfl) rfl
set_option maxRecDepth 20000 in
theorem wi_861 : Cond.methodLink RL 54 yX11_state ∈ tb := tb_of (List.mem_of_getElem? (i := 861) rfl) rfl
set_option maxRecDepth 20000 in
theorem wi_862 : Cond.instanceMethod yX11_state ∈ tb := tb_of (List.mem_of_getElem? (i := 862) rfl) rfl
set_option maxRecDepth 20000 in
theorem wi_863 : Cond.selects RX11 yX11_state yX11_state ∈ tb := tb_of (List.mem_of_getElem? (i := 863) rfl) rfl
set_option maxRecDepth 20000 in
theorem wi_864 : Cond.code yX11_state cX11_state 2 (some FieldType.int) ∈ tb := tb_of (List.mem_of_getElem? (i := 864) rfl) rfl
set_option maxRecDepth 20000 in
theorem wi_865 : Cond.methodLink RL 58 yX11_round ∈ tb := tb_of (List.mem_of_getElem? (i := 865) rfl) rfl
set_option maxRecDepth 20000 in
theorem wi_866 : Cond.instanceMethod yX11_round ∈ tb := tb_of (List.mem_of_getElem? (i := 866) rfl) rfl
set_option maxRecDepth 20000 in
theorem wi_867 : Cond.selects RX11 yX11_round yX11_round ∈ tb := tb_of (List.mem_of_getElem? (i := 867) rfl) rfl
set_option maxRecDepth 20000 in
theorem wi_868 : Cond.code yX11_round cX11_round 7 (some FieldType.int) ∈ tb := tb_of (List.mem_of_getElem? (i := 868) rfl) rfl
set_option maxRecDepth 20000 in
theorem wi_869 : Cond.methodLink RX11 172 yX11_sendShort ∈ tb := tb_of (List.mem_of_getElem? (i := 869) rfl) rfl
set_option maxRecDepth 20000 in
theorem wi_871 : Cond.instanceMethod yX11_sendShort ∈ tb := tb_of (List.mem_of_getElem? (i := 871) rfl) rfl
set_option maxRecDepth 20000 in
theorem wi_872 : Cond.code yX11_sendShort cX11_sendShort 3 (none : Option Jvm.ClassFile.FieldType) ∈ tb := tb_of (List.mem_of_getElem? (i := 872) rfl) rfl
set_option maxRecDepth 20000 in
theorem wi_873 : Cond.methodLink RX11 175 yX11_knows ∈ tb := tb_of (List.mem_of_getElem? (i := 873) rfl) rfl
set_option maxRecDepth 20000 in
theorem wi_875 : Cond.instanceMethod yX11_knows ∈ tb := tb_of (List.mem_of_getElem? (i := 875) rfl) rfl
set_option maxRecDepth 20000 in
theorem wi_876 : Cond.code yX11_knows cX11_knows 4 (some FieldType.boolean) ∈ tb := tb_of (List.mem_of_getElem? (i := 876) rfl) rfl
set_option maxRecDepth 20000 in
theorem wi_877 : Cond.methodLink RX11 163 yX11_sendSearch ∈ tb := tb_of (List.mem_of_getElem? (i := 877) rfl) rfl
set_option maxRecDepth 20000 in
theorem wi_879 : Cond.instanceMethod yX11_sendSearch ∈ tb := tb_of (List.mem_of_getElem? (i := 879) rfl) rfl
set_option maxRecDepth 20000 in
theorem wi_880 : Cond.code yX11_sendSearch cX11_sendSearch 3 (none : Option Jvm.ClassFile.FieldType) ∈ tb := tb_of (List.mem_of_getElem? (i := 880) rfl) rfl
set_option maxRecDepth 20000 in
theorem wi_881 : Cond.methodLink RX11 154 yX11_put ∈ tb := tb_of (List.mem_of_getElem? (i := 881) rfl) rfl
set_option maxRecDepth 20000 in
theorem wi_883 : Cond.instanceMethod yX11_put ∈ tb := tb_of (List.mem_of_getElem? (i := 883) rfl) rfl
set_option maxRecDepth 20000 in
theorem wi_884 : Cond.code yX11_put cX11_put 3 (none : Option Jvm.ClassFile.FieldType) ∈ tb := tb_of (List.mem_of_getElem? (i := 884) rfl) rfl
set_option maxRecDepth 20000 in
theorem wi_885 : Cond.methodLink RX11 160 yX11_knownByte ∈ tb := tb_of (List.mem_of_getElem? (i := 885) rfl) rfl
set_option maxRecDepth 20000 in
theorem wi_887 : Cond.instanceMethod yX11_knownByte ∈ tb := tb_of (List.mem_of_getElem? (i := 887) rfl) rfl
set_option maxRecDepth 20000 in
theorem wi_888 : Cond.code yX11_knownByte cX11_knownByte 4 (some FieldType.int) ∈ tb := tb_of (List.mem_of_getElem? (i := 888) rfl) rfl
set_option maxRecDepth 20000 in
theorem wi_889 : Cond.methodLink RX11 178 yX11_chooses ∈ tb := tb_of (List.mem_of_getElem? (i := 889) rfl) rfl
set_option maxRecDepth 20000 in
theorem wi_891 : Cond.instanceMethod yX11_chooses ∈ tb := tb_of (List.mem_of_getElem? (i := 891) rfl) rfl
set_option maxRecDepth 20000 in
theorem wi_892 : Cond.code yX11_chooses cX11_chooses 4 (some FieldType.int) ∈ tb := tb_of (List.mem_of_getElem? (i := 892) rfl) rfl
set_option maxRecDepth 20000 in
theorem wi_893 : Cond.methodLink RX11 166 yX11_putChecked ∈ tb := tb_of (List.mem_of_getElem? (i := 893) rfl) rfl
set_option maxRecDepth 20000 in
theorem wi_895 : Cond.instanceMethod yX11_putChecked ∈ tb := tb_of (List.mem_of_getElem? (i := 895) rfl) rfl
set_option maxRecDepth 20000 in
theorem wi_896 : Cond.code yX11_putChecked cX11_putChecked 3 (none : Option Jvm.ClassFile.FieldType) ∈ tb := tb_of (List.mem_of_getElem? (i := 896) rfl) rfl
set_option maxRecDepth 20000 in
theorem wi_897 : Cond.methodLink RL 62 yX11_found ∈ tb := tb_of (List.mem_of_getElem? (i := 897) rfl) rfl
set_option maxRecDepth 20000 in
theorem wi_898 : Cond.instanceMethod yX11_found ∈ tb := tb_of (List.mem_of_getElem? (i := 898) rfl) rfl
set_option maxRecDepth 20000 in
theorem wi_899 : Cond.selects RX11 yX11_found yX11_found ∈ tb := tb_of (List.mem_of_getElem? (i := 899) rfl) rfl
set_option maxRecDepth 20000 in
theorem wi_900 : Cond.code yX11_found cX11_found 3 (some FieldType.int) ∈ tb := tb_of (List.mem_of_getElem? (i := 900) rfl) rfl
set_option maxRecDepth 20000 in
theorem wi_901 : Cond.methodLink RL 66 yX11_frames ∈ tb := tb_of (List.mem_of_getElem? (i := 901) rfl) rfl
set_option maxRecDepth 20000 in
theorem wi_902 : Cond.instanceMethod yX11_frames ∈ tb := tb_of (List.mem_of_getElem? (i := 902) rfl) rfl
set_option maxRecDepth 20000 in
theorem wi_903 : Cond.selects RX11 yX11_frames yX11_frames ∈ tb := tb_of (List.mem_of_getElem? (i := 903) rfl) rfl
set_option maxRecDepth 20000 in
theorem wi_904 : Cond.code yX11_frames cX11_frames 1 (some FieldType.int) ∈ tb := tb_of (List.mem_of_getElem? (i := 904) rfl) rfl
set_option maxRecDepth 20000 in
theorem wi_905 : Cond.castable "TagField$Tag" "TagField$Tag" ∈ tb := tb_of (List.mem_of_getElem? (i := 905) rfl) rfl
set_option maxRecDepth 20000 in
theorem wi_906 : Cond.sameMethod "[Ljava/lang/Object;" "java/lang/Object" "getClass" "()Ljava/lang/Class;" ∈ tb := tb_of (List.mem_of_getElem? (i := 906) rfl) rfl
set_option maxRecDepth 20000 in
theorem wi_908 : Cond.declares ⟨"java/lang/Object", "getClass", "()Ljava/lang/Class;"⟩ ∈ tb := tb_of (List.mem_of_getElem? (i := 908) rfl) rfl
set_option maxRecDepth 20000 in
theorem wi_909 : Cond.castable "TagField" "java/lang/Object" ∈ tb := tb_of (List.mem_of_getElem? (i := 909) rfl) rfl
set_option maxRecDepth 20000 in
theorem wi_910 : Cond.castable "TagField$Row" "java/lang/Object" ∈ tb := tb_of (List.mem_of_getElem? (i := 910) rfl) rfl
set_option maxRecDepth 20000 in
theorem wi_911 : Cond.castable "TagField$Answer" "java/lang/Object" ∈ tb := tb_of (List.mem_of_getElem? (i := 911) rfl) rfl
set_option maxRecDepth 20000 in
theorem wi_912 : Cond.castable "TagField$Air" "java/lang/Object" ∈ tb := tb_of (List.mem_of_getElem? (i := 912) rfl) rfl
set_option maxRecDepth 20000 in
theorem wi_913 : Cond.castable "TagField$Frame" "java/lang/Object" ∈ tb := tb_of (List.mem_of_getElem? (i := 913) rfl) rfl
set_option maxRecDepth 20000 in
theorem wi_914 : Cond.castable "TagField$Reader" "java/lang/Object" ∈ tb := tb_of (List.mem_of_getElem? (i := 914) rfl) rfl
set_option maxRecDepth 20000 in
theorem wi_915 : Cond.castable "TagFieldModel" "java/lang/Object" ∈ tb := tb_of (List.mem_of_getElem? (i := 915) rfl) rfl
set_option maxRecDepth 20000 in
theorem wi_916 : Cond.castable "TagField$Tag" "java/lang/Object" ∈ tb := tb_of (List.mem_of_getElem? (i := 916) rfl) rfl
set_option maxRecDepth 20000 in
theorem wi_917 : Cond.castable "TagField$Kind" "java/lang/Object" ∈ tb := tb_of (List.mem_of_getElem? (i := 917) rfl) rfl
set_option maxRecDepth 20000 in
theorem wi_918 : Cond.castable "TagField$Reply" "java/lang/Object" ∈ tb := tb_of (List.mem_of_getElem? (i := 918) rfl) rfl
theorem lay_X1 : ∀ w ∈ u_ws RX1 TX1 4, w ∈ tb := by decide +kernel
theorem tab_X1 : hp_T TX1 4 tyX1 := ⟨tyX1_ok, nmX1⟩
theorem lay_X2 : ∀ w ∈ u_ws RX2 TX2 3, w ∈ tb := by decide +kernel
theorem tab_X2 : hp_T TX2 3 tyX2 := ⟨tyX2_ok, nmX2⟩
theorem lay_X4 : ∀ w ∈ u_ws RX4 TX4 5, w ∈ tb := by decide +kernel
theorem tab_X4 : hp_T TX4 5 tyX4 := ⟨tyX4_ok, nmX4⟩
theorem lay_X6 : ∀ w ∈ u_ws RX6 TX6 7, w ∈ tb := by decide +kernel
theorem tab_X6 : hp_T TX6 7 tyX6 := ⟨tyX6_ok, nmX6⟩
theorem lay_X8 : ∀ w ∈ u_ws RX8 TX8 2, w ∈ tb := by decide +kernel
theorem tab_X8 : hp_T TX8 2 tyX8 := ⟨tyX8_ok, nmX8⟩
theorem lay_X9 : ∀ w ∈ u_ws RX9 TX9 5, w ∈ tb := by decide +kernel
theorem tab_X9 : hp_T TX9 5 tyX9 := ⟨tyX9_ok, nmX9⟩
theorem lay_X10 : ∀ w ∈ u_ws RX10 TX10 4, w ∈ tb := by decide +kernel
theorem tab_X10 : hp_T TX10 4 tyX10 := ⟨tyX10_ok, nmX10⟩
theorem lay_X11 : ∀ w ∈ u_ws RX11 TX11 29, w ∈ tb := by decide +kernel
theorem tab_X11 : hp_T TX11 29 tyX11 := ⟨tyX11_ok, nmX11⟩
theorem lay_Jx4a65c : ∀ w ∈ u_ws RJx4a65c TJx4a65c 3, w ∈ tb := by decide +kernel
theorem tab_Jx4a65c : hp_T TJx4a65c 3 tyJx4a65c := ⟨tyJx4a65c_ok, nmJx4a65c⟩
theorem F_X8_9 : sF RX8 9 4 0 := ⟨RX8, TX8, 2, "TagField$Row", rfl, by decide, lay_X8, Or.inl wi_79, Or.inl rfl⟩
theorem P_X8_9 : sP RX8 9 4 0 (.array .int) true := ⟨RX8, TX8, 2, "TagField$Row", tyX8, rfl, by decide, lay_X8, Or.inl wi_79, Or.inl rfl, rfl, by decide +kernel, tab_X8, fun _ => rfl⟩
theorem F_X4_20 : sF RX4 20 4 1 := ⟨RX8, TX8, 2, "TagField$Row", rfl, by decide, lay_X8, Or.inr ⟨_, wi_80⟩, Or.inl rfl⟩
theorem P_X4_20 : sP RX4 20 4 1 .int false := ⟨RX8, TX8, 2, "TagField$Row", tyX8, rfl, by decide, lay_X8, Or.inr ⟨rfl, _, wi_80⟩, Or.inl rfl, rfl, by decide +kernel, tab_X8, fun h => by cases h⟩
theorem F_X8_15 : sF RX8 15 4 1 := ⟨RX8, TX8, 2, "TagField$Row", rfl, by decide, lay_X8, Or.inl wi_81, Or.inl rfl⟩
theorem P_X8_15 : sP RX8 15 4 1 .int false := ⟨RX8, TX8, 2, "TagField$Row", tyX8, rfl, by decide, lay_X8, Or.inl wi_81, Or.inl rfl, rfl, by decide +kernel, tab_X8, fun h => by cases h⟩
theorem F_X10_79 : sF RX10 79 4 1 := ⟨RX8, TX8, 2, "TagField$Row", rfl, by decide, lay_X8, Or.inr ⟨_, wi_82⟩, Or.inl rfl⟩
theorem P_X10_79 : sP RX10 79 4 1 .int false := ⟨RX8, TX8, 2, "TagField$Row", tyX8, rfl, by decide, lay_X8, Or.inr ⟨rfl, _, wi_82⟩, Or.inl rfl, rfl, by decide +kernel, tab_X8, fun h => by cases h⟩
theorem F_X2_9 : sF RX2 9 1 0 := ⟨RX2, TX2, 3, "TagField$Answer", rfl, by decide, lay_X2, Or.inl wi_95, Or.inl rfl⟩
theorem P_X2_9 : sP RX2 9 1 0 .long false := ⟨RX2, TX2, 3, "TagField$Answer", tyX2, rfl, by decide, lay_X2, Or.inl wi_95, Or.inl rfl, rfl, by decide +kernel, tab_X2, fun h => by cases h⟩
theorem F_X2_15 : sF RX2 15 1 1 := ⟨RX2, TX2, 3, "TagField$Answer", rfl, by decide, lay_X2, Or.inl wi_96, Or.inl rfl⟩
theorem P_X2_15 : sP RX2 15 1 1 .long false := ⟨RX2, TX2, 3, "TagField$Answer", tyX2, rfl, by decide, lay_X2, Or.inl wi_96, Or.inl rfl, rfl, by decide +kernel, tab_X2, fun h => by cases h⟩
theorem F_X2_18 : sF RX2 18 1 2 := ⟨RX2, TX2, 3, "TagField$Answer", rfl, by decide, lay_X2, Or.inl wi_97, Or.inl rfl⟩
theorem P_X2_18 : sP RX2 18 1 2 .int false := ⟨RX2, TX2, 3, "TagField$Answer", tyX2, rfl, by decide, lay_X2, Or.inl wi_97, Or.inl rfl, rfl, by decide +kernel, tab_X2, fun h => by cases h⟩
theorem F_X1_77 : sF RX1 77 1 2 := ⟨RX2, TX2, 3, "TagField$Answer", rfl, by decide, lay_X2, Or.inr ⟨_, wi_98⟩, Or.inl rfl⟩
theorem P_X1_77 : sP RX1 77 1 2 .int false := ⟨RX2, TX2, 3, "TagField$Answer", tyX2, rfl, by decide, lay_X2, Or.inr ⟨rfl, _, wi_98⟩, Or.inl rfl, rfl, by decide +kernel, tab_X2, fun h => by cases h⟩
theorem F_Jx4a65c_9 : sF RJx4a65c 9 8 1 := ⟨RJx4a65c, TJx4a65c, 3, "java/util/ArrayList", rfl, by decide, lay_Jx4a65c, Or.inl wi_126, Or.inl rfl⟩
theorem P_Jx4a65c_9 : sP RJx4a65c 9 8 1 (.array (.object "java/lang/Object")) false := ⟨RJx4a65c, TJx4a65c, 3, "java/util/ArrayList", tyJx4a65c, rfl, by decide, lay_Jx4a65c, Or.inl wi_126, Or.inl rfl, rfl, by decide +kernel, tab_Jx4a65c, fun h => by cases h⟩
theorem F_Jx4a65c_48 : sF RJx4a65c 48 8 2 := ⟨RJx4a65c, TJx4a65c, 3, "java/util/ArrayList", rfl, by decide, lay_Jx4a65c, Or.inl wi_127, Or.inl rfl⟩
theorem P_Jx4a65c_48 : sP RJx4a65c 48 8 2 .int false := ⟨RJx4a65c, TJx4a65c, 3, "java/util/ArrayList", tyJx4a65c, rfl, by decide, lay_Jx4a65c, Or.inl wi_127, Or.inl rfl, rfl, by decide +kernel, tab_Jx4a65c, fun h => by cases h⟩
theorem F_Jxc12de_7 : sF RJxc12de 7 8 0 := ⟨RJx4a65c, TJx4a65c, 3, "java/util/AbstractList", rfl, by decide, lay_Jx4a65c, Or.inl wi_128, Or.inl rfl⟩
theorem P_Jxc12de_7 : sP RJxc12de 7 8 0 .int false := ⟨RJx4a65c, TJx4a65c, 3, "java/util/AbstractList", tyJx4a65c, rfl, by decide, lay_Jx4a65c, Or.inl wi_128, Or.inl rfl, rfl, by decide +kernel, tab_Jx4a65c, fun h => by cases h⟩
theorem F_Jx4a65c_63 : sF RJx4a65c 63 8 0 := ⟨RJx4a65c, TJx4a65c, 3, "java/util/ArrayList", rfl, by decide, lay_Jx4a65c, Or.inl wi_129, Or.inr wi_130⟩
theorem P_Jx4a65c_63 : sP RJx4a65c 63 8 0 .int false := ⟨RJx4a65c, TJx4a65c, 3, "java/util/ArrayList", tyJx4a65c, rfl, by decide, lay_Jx4a65c, Or.inl wi_129, Or.inr wi_130, rfl, by decide +kernel, tab_Jx4a65c, fun h => by cases h⟩
theorem F_X4_15 : sF RX4 15 2 0 := ⟨RX4, TX4, 5, "TagField$Frame", rfl, by decide, lay_X4, Or.inl wi_146, Or.inl rfl⟩
theorem P_X4_15 : sP RX4 15 2 0 (.object "TagField$Kind") false := ⟨RX4, TX4, 5, "TagField$Frame", tyX4, rfl, by decide, lay_X4, Or.inl wi_146, Or.inl rfl, rfl, by decide +kernel, tab_X4, fun h => by cases h⟩
theorem F_X9_45 : sF RX9 45 2 0 := ⟨RX4, TX4, 5, "TagField$Frame", rfl, by decide, lay_X4, Or.inr ⟨_, wi_147⟩, Or.inl rfl⟩
theorem P_X9_45 : sP RX9 45 2 0 (.object "TagField$Kind") false := ⟨RX4, TX4, 5, "TagField$Frame", tyX4, rfl, by decide, lay_X4, Or.inr ⟨rfl, _, wi_147⟩, Or.inl rfl, rfl, by decide +kernel, tab_X4, fun h => by cases h⟩
theorem F_X4_37 : sF RX4 37 2 1 := ⟨RX4, TX4, 5, "TagField$Frame", rfl, by decide, lay_X4, Or.inl wi_148, Or.inl rfl⟩
theorem P_X4_37 : sP RX4 37 2 1 .int false := ⟨RX4, TX4, 5, "TagField$Frame", tyX4, rfl, by decide, lay_X4, Or.inl wi_148, Or.inl rfl, rfl, by decide +kernel, tab_X4, fun h => by cases h⟩
theorem F_X9_89 : sF RX9 89 2 1 := ⟨RX4, TX4, 5, "TagField$Frame", rfl, by decide, lay_X4, Or.inr ⟨_, wi_149⟩, Or.inl rfl⟩
theorem P_X9_89 : sP RX9 89 2 1 .int false := ⟨RX4, TX4, 5, "TagField$Frame", tyX4, rfl, by decide, lay_X4, Or.inr ⟨rfl, _, wi_149⟩, Or.inl rfl, rfl, by decide +kernel, tab_X4, fun h => by cases h⟩
theorem F_X4_30 : sF RX4 30 2 2 := ⟨RX4, TX4, 5, "TagField$Frame", rfl, by decide, lay_X4, Or.inl wi_150, Or.inl rfl⟩
theorem P_X4_30 : sP RX4 30 2 2 .int false := ⟨RX4, TX4, 5, "TagField$Frame", tyX4, rfl, by decide, lay_X4, Or.inl wi_150, Or.inl rfl, rfl, by decide +kernel, tab_X4, fun h => by cases h⟩
theorem F_X9_161 : sF RX9 161 2 2 := ⟨RX4, TX4, 5, "TagField$Frame", rfl, by decide, lay_X4, Or.inr ⟨_, wi_151⟩, Or.inl rfl⟩
theorem P_X9_161 : sP RX9 161 2 2 .int false := ⟨RX4, TX4, 5, "TagField$Frame", tyX4, rfl, by decide, lay_X4, Or.inr ⟨rfl, _, wi_151⟩, Or.inl rfl, rfl, by decide +kernel, tab_X4, fun h => by cases h⟩
theorem F_X4_80 : sF RX4 80 2 3 := ⟨RX4, TX4, 5, "TagField$Frame", rfl, by decide, lay_X4, Or.inl wi_152, Or.inl rfl⟩
theorem P_X4_80 : sP RX4 80 2 3 .long false := ⟨RX4, TX4, 5, "TagField$Frame", tyX4, rfl, by decide, lay_X4, Or.inl wi_152, Or.inl rfl, rfl, by decide +kernel, tab_X4, fun h => by cases h⟩
theorem F_X9_113 : sF RX9 113 2 3 := ⟨RX4, TX4, 5, "TagField$Frame", rfl, by decide, lay_X4, Or.inr ⟨_, wi_153⟩, Or.inl rfl⟩
theorem P_X9_113 : sP RX9 113 2 3 .long false := ⟨RX4, TX4, 5, "TagField$Frame", tyX4, rfl, by decide, lay_X4, Or.inr ⟨rfl, _, wi_153⟩, Or.inl rfl, rfl, by decide +kernel, tab_X4, fun h => by cases h⟩
theorem F_X4_84 : sF RX4 84 2 4 := ⟨RX4, TX4, 5, "TagField$Frame", rfl, by decide, lay_X4, Or.inl wi_154, Or.inl rfl⟩
theorem P_X4_84 : sP RX4 84 2 4 .int false := ⟨RX4, TX4, 5, "TagField$Frame", tyX4, rfl, by decide, lay_X4, Or.inl wi_154, Or.inl rfl, rfl, by decide +kernel, tab_X4, fun h => by cases h⟩
theorem F_X9_110 : sF RX9 110 2 4 := ⟨RX4, TX4, 5, "TagField$Frame", rfl, by decide, lay_X4, Or.inr ⟨_, wi_155⟩, Or.inl rfl⟩
theorem P_X9_110 : sP RX9 110 2 4 .int false := ⟨RX4, TX4, 5, "TagField$Frame", tyX4, rfl, by decide, lay_X4, Or.inr ⟨rfl, _, wi_155⟩, Or.inl rfl, rfl, by decide +kernel, tab_X4, fun h => by cases h⟩
theorem F_X1_10 : sF RX1 10 0 0 := ⟨RX1, TX1, 4, "TagField$Air", rfl, by decide, lay_X1, Or.inl wi_167, Or.inl rfl⟩
theorem P_X1_10 : sP RX1 10 0 0 (.object "java/util/ArrayList") true := ⟨RX1, TX1, 4, "TagField$Air", tyX1, rfl, by decide, lay_X1, Or.inl wi_167, Or.inl rfl, rfl, by decide +kernel, tab_X1, fun _ => rfl⟩
theorem F_X1_19 : sF RX1 19 0 1 := ⟨RX1, TX1, 4, "TagField$Air", rfl, by decide, lay_X1, Or.inl wi_168, Or.inl rfl⟩
theorem P_X1_19 : sP RX1 19 0 1 (.object "TagField$Frame") true := ⟨RX1, TX1, 4, "TagField$Air", tyX1, rfl, by decide, lay_X1, Or.inl wi_168, Or.inl rfl, rfl, by decide +kernel, tab_X1, fun _ => rfl⟩
theorem F_X1_23 : sF RX1 23 0 2 := ⟨RX1, TX1, 4, "TagField$Air", rfl, by decide, lay_X1, Or.inl wi_169, Or.inl rfl⟩
theorem P_X1_23 : sP RX1 23 0 2 .boolean false := ⟨RX1, TX1, 4, "TagField$Air", tyX1, rfl, by decide, lay_X1, Or.inl wi_169, Or.inl rfl, rfl, by decide +kernel, tab_X1, fun h => by cases h⟩
theorem F_X1_56 : sF RX1 56 0 3 := ⟨RX1, TX1, 4, "TagField$Air", rfl, by decide, lay_X1, Or.inl wi_170, Or.inl rfl⟩
theorem P_X1_56 : sP RX1 56 0 3 .int false := ⟨RX1, TX1, 4, "TagField$Air", tyX1, rfl, by decide, lay_X1, Or.inl wi_170, Or.inl rfl, rfl, by decide +kernel, tab_X1, fun h => by cases h⟩
theorem F_X10_119 : sF RX10 119 0 3 := ⟨RX1, TX1, 4, "TagField$Air", rfl, by decide, lay_X1, Or.inr ⟨_, wi_171⟩, Or.inl rfl⟩
theorem P_X10_119 : sP RX10 119 0 3 .int false := ⟨RX1, TX1, 4, "TagField$Air", tyX1, rfl, by decide, lay_X1, Or.inr ⟨rfl, _, wi_171⟩, Or.inl rfl, rfl, by decide +kernel, tab_X1, fun h => by cases h⟩
theorem F_X6_14 : sF RX6 14 3 0 := ⟨RX6, TX6, 7, "TagField$Reader", rfl, by decide, lay_X6, Or.inl wi_191, Or.inl rfl⟩
theorem P_X6_14 : sP RX6 14 3 0 (.object "TagField$Row") true := ⟨RX6, TX6, 7, "TagField$Reader", tyX6, rfl, by decide, lay_X6, Or.inl wi_191, Or.inl rfl, rfl, by decide +kernel, tab_X6, fun _ => rfl⟩
theorem F_X6_23 : sF RX6 23 3 1 := ⟨RX6, TX6, 7, "TagField$Reader", rfl, by decide, lay_X6, Or.inl wi_192, Or.inl rfl⟩
theorem P_X6_23 : sP RX6 23 3 1 (.object "TagField$Answer") true := ⟨RX6, TX6, 7, "TagField$Reader", tyX6, rfl, by decide, lay_X6, Or.inl wi_192, Or.inl rfl, rfl, by decide +kernel, tab_X6, fun _ => rfl⟩
theorem F_X6_27 : sF RX6 27 3 2 := ⟨RX6, TX6, 7, "TagField$Reader", rfl, by decide, lay_X6, Or.inl wi_193, Or.inl rfl⟩
theorem P_X6_27 : sP RX6 27 3 2 (.array .int) true := ⟨RX6, TX6, 7, "TagField$Reader", tyX6, rfl, by decide, lay_X6, Or.inl wi_193, Or.inl rfl, rfl, by decide +kernel, tab_X6, fun _ => rfl⟩
theorem F_X6_31 : sF RX6 31 3 3 := ⟨RX6, TX6, 7, "TagField$Reader", rfl, by decide, lay_X6, Or.inl wi_194, Or.inl rfl⟩
theorem P_X6_31 : sP RX6 31 3 3 (.array .int) true := ⟨RX6, TX6, 7, "TagField$Reader", tyX6, rfl, by decide, lay_X6, Or.inl wi_194, Or.inl rfl, rfl, by decide +kernel, tab_X6, fun _ => rfl⟩
theorem F_X6_34 : sF RX6 34 3 4 := ⟨RX6, TX6, 7, "TagField$Reader", rfl, by decide, lay_X6, Or.inl wi_195, Or.inl rfl⟩
theorem P_X6_34 : sP RX6 34 3 4 .int false := ⟨RX6, TX6, 7, "TagField$Reader", tyX6, rfl, by decide, lay_X6, Or.inl wi_195, Or.inl rfl, rfl, by decide +kernel, tab_X6, fun h => by cases h⟩
theorem F_X10_113 : sF RX10 113 3 4 := ⟨RX6, TX6, 7, "TagField$Reader", rfl, by decide, lay_X6, Or.inr ⟨_, wi_196⟩, Or.inl rfl⟩
theorem P_X10_113 : sP RX10 113 3 4 .int false := ⟨RX6, TX6, 7, "TagField$Reader", tyX6, rfl, by decide, lay_X6, Or.inr ⟨rfl, _, wi_196⟩, Or.inl rfl, rfl, by decide +kernel, tab_X6, fun h => by cases h⟩
theorem F_X6_69 : sF RX6 69 3 5 := ⟨RX6, TX6, 7, "TagField$Reader", rfl, by decide, lay_X6, Or.inl wi_197, Or.inl rfl⟩
theorem P_X6_69 : sP RX6 69 3 5 .long false := ⟨RX6, TX6, 7, "TagField$Reader", tyX6, rfl, by decide, lay_X6, Or.inl wi_197, Or.inl rfl, rfl, by decide +kernel, tab_X6, fun h => by cases h⟩
theorem F_X6_73 : sF RX6 73 3 6 := ⟨RX6, TX6, 7, "TagField$Reader", rfl, by decide, lay_X6, Or.inl wi_198, Or.inl rfl⟩
theorem P_X6_73 : sP RX6 73 3 6 .int false := ⟨RX6, TX6, 7, "TagField$Reader", tyX6, rfl, by decide, lay_X6, Or.inl wi_198, Or.inl rfl, rfl, by decide +kernel, tab_X6, fun h => by cases h⟩
theorem F_X10_14 : sF RX10 14 6 0 := ⟨RX10, TX10, 4, "TagField", rfl, by decide, lay_X10, Or.inl wi_214, Or.inl rfl⟩
theorem P_X10_14 : sP RX10 14 6 0 (.object "TagField$Row") true := ⟨RX10, TX10, 4, "TagField", tyX10, rfl, by decide, lay_X10, Or.inl wi_214, Or.inl rfl, rfl, by decide +kernel, tab_X10, fun _ => rfl⟩
theorem F_X10_21 : sF RX10 21 6 1 := ⟨RX10, TX10, 4, "TagField", rfl, by decide, lay_X10, Or.inl wi_215, Or.inl rfl⟩
theorem P_X10_21 : sP RX10 21 6 1 (.object "TagField$Answer") true := ⟨RX10, TX10, 4, "TagField", tyX10, rfl, by decide, lay_X10, Or.inl wi_215, Or.inl rfl, rfl, by decide +kernel, tab_X10, fun _ => rfl⟩
theorem F_X10_28 : sF RX10 28 6 2 := ⟨RX10, TX10, 4, "TagField", rfl, by decide, lay_X10, Or.inl wi_216, Or.inl rfl⟩
theorem P_X10_28 : sP RX10 28 6 2 (.object "TagField$Air") true := ⟨RX10, TX10, 4, "TagField", tyX10, rfl, by decide, lay_X10, Or.inl wi_216, Or.inl rfl, rfl, by decide +kernel, tab_X10, fun _ => rfl⟩
theorem F_X10_35 : sF RX10 35 6 3 := ⟨RX10, TX10, 4, "TagField", rfl, by decide, lay_X10, Or.inl wi_217, Or.inl rfl⟩
theorem P_X10_35 : sP RX10 35 6 3 (.object "TagField$Reader") true := ⟨RX10, TX10, 4, "TagField", tyX10, rfl, by decide, lay_X10, Or.inl wi_217, Or.inl rfl, rfl, by decide +kernel, tab_X10, fun _ => rfl⟩
theorem F_X9_22 : sF RX9 22 5 0 := ⟨RX9, TX9, 5, "TagField$Tag", rfl, by decide, lay_X9, Or.inl wi_245, Or.inl rfl⟩
theorem P_X9_22 : sP RX9 22 5 0 .int true := ⟨RX9, TX9, 5, "TagField$Tag", tyX9, rfl, by decide, lay_X9, Or.inl wi_245, Or.inl rfl, rfl, by decide +kernel, tab_X9, fun _ => rfl⟩
theorem F_X9_25 : sF RX9 25 5 1 := ⟨RX9, TX9, 5, "TagField$Tag", rfl, by decide, lay_X9, Or.inl wi_246, Or.inl rfl⟩
theorem P_X9_25 : sP RX9 25 5 1 (.array .long) true := ⟨RX9, TX9, 5, "TagField$Tag", tyX9, rfl, by decide, lay_X9, Or.inl wi_246, Or.inl rfl, rfl, by decide +kernel, tab_X9, fun _ => rfl⟩
theorem F_X9_9 : sF RX9 9 5 2 := ⟨RX9, TX9, 5, "TagField$Tag", rfl, by decide, lay_X9, Or.inl wi_247, Or.inl rfl⟩
theorem P_X9_9 : sP RX9 9 5 2 .boolean false := ⟨RX9, TX9, 5, "TagField$Tag", tyX9, rfl, by decide, lay_X9, Or.inl wi_247, Or.inl rfl, rfl, by decide +kernel, tab_X9, fun h => by cases h⟩
theorem F_X9_15 : sF RX9 15 5 3 := ⟨RX9, TX9, 5, "TagField$Tag", rfl, by decide, lay_X9, Or.inl wi_248, Or.inl rfl⟩
theorem P_X9_15 : sP RX9 15 5 3 .int false := ⟨RX9, TX9, 5, "TagField$Tag", tyX9, rfl, by decide, lay_X9, Or.inl wi_248, Or.inl rfl, rfl, by decide +kernel, tab_X9, fun h => by cases h⟩
theorem F_X9_19 : sF RX9 19 5 4 := ⟨RX9, TX9, 5, "TagField$Tag", rfl, by decide, lay_X9, Or.inl wi_249, Or.inl rfl⟩
theorem P_X9_19 : sP RX9 19 5 4 .int false := ⟨RX9, TX9, 5, "TagField$Tag", tyX9, rfl, by decide, lay_X9, Or.inl wi_249, Or.inl rfl, rfl, by decide +kernel, tab_X9, fun h => by cases h⟩
theorem F_X11_67 : sF RX11 67 7 0 := ⟨RX11, TX11, 29, "TagFieldModel", rfl, by decide, lay_X11, Or.inl wi_674, Or.inl rfl⟩
theorem P_X11_67 : sP RX11 67 7 0 .int false := ⟨RX11, TX11, 29, "TagFieldModel", tyX11, rfl, by decide, lay_X11, Or.inl wi_674, Or.inl rfl, rfl, by decide +kernel, tab_X11, fun h => by cases h⟩
theorem F_X11_7 : sF RX11 7 7 1 := ⟨RX11, TX11, 29, "TagFieldModel", rfl, by decide, lay_X11, Or.inl wi_675, Or.inl rfl⟩
theorem P_X11_7 : sP RX11 7 7 1 (.array .int) true := ⟨RX11, TX11, 29, "TagFieldModel", tyX11, rfl, by decide, lay_X11, Or.inl wi_675, Or.inl rfl, rfl, by decide +kernel, tab_X11, fun _ => rfl⟩
theorem F_X11_13 : sF RX11 13 7 2 := ⟨RX11, TX11, 29, "TagFieldModel", rfl, by decide, lay_X11, Or.inl wi_676, Or.inl rfl⟩
theorem P_X11_13 : sP RX11 13 7 2 (.array .int) true := ⟨RX11, TX11, 29, "TagFieldModel", tyX11, rfl, by decide, lay_X11, Or.inl wi_676, Or.inl rfl, rfl, by decide +kernel, tab_X11, fun _ => rfl⟩
theorem F_X11_16 : sF RX11 16 7 3 := ⟨RX11, TX11, 29, "TagFieldModel", rfl, by decide, lay_X11, Or.inl wi_677, Or.inl rfl⟩
theorem P_X11_16 : sP RX11 16 7 3 (.array .boolean) true := ⟨RX11, TX11, 29, "TagFieldModel", tyX11, rfl, by decide, lay_X11, Or.inl wi_677, Or.inl rfl, rfl, by decide +kernel, tab_X11, fun _ => rfl⟩
theorem F_X11_20 : sF RX11 20 7 4 := ⟨RX11, TX11, 29, "TagFieldModel", rfl, by decide, lay_X11, Or.inl wi_678, Or.inl rfl⟩
theorem P_X11_20 : sP RX11 20 7 4 (.array .int) true := ⟨RX11, TX11, 29, "TagFieldModel", tyX11, rfl, by decide, lay_X11, Or.inl wi_678, Or.inl rfl, rfl, by decide +kernel, tab_X11, fun _ => rfl⟩
theorem F_X11_23 : sF RX11 23 7 5 := ⟨RX11, TX11, 29, "TagFieldModel", rfl, by decide, lay_X11, Or.inl wi_679, Or.inl rfl⟩
theorem P_X11_23 : sP RX11 23 7 5 (.array .int) true := ⟨RX11, TX11, 29, "TagFieldModel", tyX11, rfl, by decide, lay_X11, Or.inl wi_679, Or.inl rfl, rfl, by decide +kernel, tab_X11, fun _ => rfl⟩
theorem F_X11_26 : sF RX11 26 7 6 := ⟨RX11, TX11, 29, "TagFieldModel", rfl, by decide, lay_X11, Or.inl wi_680, Or.inl rfl⟩
theorem P_X11_26 : sP RX11 26 7 6 (.array .int) true := ⟨RX11, TX11, 29, "TagFieldModel", tyX11, rfl, by decide, lay_X11, Or.inl wi_680, Or.inl rfl, rfl, by decide +kernel, tab_X11, fun _ => rfl⟩
theorem F_X11_29 : sF RX11 29 7 7 := ⟨RX11, TX11, 29, "TagFieldModel", rfl, by decide, lay_X11, Or.inl wi_681, Or.inl rfl⟩
theorem P_X11_29 : sP RX11 29 7 7 .boolean false := ⟨RX11, TX11, 29, "TagFieldModel", tyX11, rfl, by decide, lay_X11, Or.inl wi_681, Or.inl rfl, rfl, by decide +kernel, tab_X11, fun h => by cases h⟩
theorem F_X11_79 : sF RX11 79 7 8 := ⟨RX11, TX11, 29, "TagFieldModel", rfl, by decide, lay_X11, Or.inl wi_682, Or.inl rfl⟩
theorem P_X11_79 : sP RX11 79 7 8 .int false := ⟨RX11, TX11, 29, "TagFieldModel", tyX11, rfl, by decide, lay_X11, Or.inl wi_682, Or.inl rfl, rfl, by decide +kernel, tab_X11, fun h => by cases h⟩
theorem F_X11_33 : sF RX11 33 7 9 := ⟨RX11, TX11, 29, "TagFieldModel", rfl, by decide, lay_X11, Or.inl wi_683, Or.inl rfl⟩
theorem P_X11_33 : sP RX11 33 7 9 (.array .int) true := ⟨RX11, TX11, 29, "TagFieldModel", tyX11, rfl, by decide, lay_X11, Or.inl wi_683, Or.inl rfl, rfl, by decide +kernel, tab_X11, fun _ => rfl⟩
theorem F_X11_104 : sF RX11 104 7 10 := ⟨RX11, TX11, 29, "TagFieldModel", rfl, by decide, lay_X11, Or.inl wi_684, Or.inl rfl⟩
theorem P_X11_104 : sP RX11 104 7 10 .int false := ⟨RX11, TX11, 29, "TagFieldModel", tyX11, rfl, by decide, lay_X11, Or.inl wi_684, Or.inl rfl, rfl, by decide +kernel, tab_X11, fun h => by cases h⟩
theorem F_X11_36 : sF RX11 36 7 11 := ⟨RX11, TX11, 29, "TagFieldModel", rfl, by decide, lay_X11, Or.inl wi_685, Or.inl rfl⟩
theorem P_X11_36 : sP RX11 36 7 11 (.array .int) true := ⟨RX11, TX11, 29, "TagFieldModel", tyX11, rfl, by decide, lay_X11, Or.inl wi_685, Or.inl rfl, rfl, by decide +kernel, tab_X11, fun _ => rfl⟩
theorem F_X11_39 : sF RX11 39 7 12 := ⟨RX11, TX11, 29, "TagFieldModel", rfl, by decide, lay_X11, Or.inl wi_686, Or.inl rfl⟩
theorem P_X11_39 : sP RX11 39 7 12 (.array .int) true := ⟨RX11, TX11, 29, "TagFieldModel", tyX11, rfl, by decide, lay_X11, Or.inl wi_686, Or.inl rfl, rfl, by decide +kernel, tab_X11, fun _ => rfl⟩
theorem F_X11_98 : sF RX11 98 7 13 := ⟨RX11, TX11, 29, "TagFieldModel", rfl, by decide, lay_X11, Or.inl wi_687, Or.inl rfl⟩
theorem P_X11_98 : sP RX11 98 7 13 .int false := ⟨RX11, TX11, 29, "TagFieldModel", tyX11, rfl, by decide, lay_X11, Or.inl wi_687, Or.inl rfl, rfl, by decide +kernel, tab_X11, fun h => by cases h⟩
theorem F_X11_107 : sF RX11 107 7 14 := ⟨RX11, TX11, 29, "TagFieldModel", rfl, by decide, lay_X11, Or.inl wi_688, Or.inl rfl⟩
theorem P_X11_107 : sP RX11 107 7 14 .int false := ⟨RX11, TX11, 29, "TagFieldModel", tyX11, rfl, by decide, lay_X11, Or.inl wi_688, Or.inl rfl, rfl, by decide +kernel, tab_X11, fun h => by cases h⟩
theorem F_X11_101 : sF RX11 101 7 15 := ⟨RX11, TX11, 29, "TagFieldModel", rfl, by decide, lay_X11, Or.inl wi_689, Or.inl rfl⟩
theorem P_X11_101 : sP RX11 101 7 15 .int false := ⟨RX11, TX11, 29, "TagFieldModel", tyX11, rfl, by decide, lay_X11, Or.inl wi_689, Or.inl rfl, rfl, by decide +kernel, tab_X11, fun h => by cases h⟩
theorem F_X11_42 : sF RX11 42 7 16 := ⟨RX11, TX11, 29, "TagFieldModel", rfl, by decide, lay_X11, Or.inl wi_690, Or.inl rfl⟩
theorem P_X11_42 : sP RX11 42 7 16 (.array .int) true := ⟨RX11, TX11, 29, "TagFieldModel", tyX11, rfl, by decide, lay_X11, Or.inl wi_690, Or.inl rfl, rfl, by decide +kernel, tab_X11, fun _ => rfl⟩
theorem F_X11_110 : sF RX11 110 7 17 := ⟨RX11, TX11, 29, "TagFieldModel", rfl, by decide, lay_X11, Or.inl wi_691, Or.inl rfl⟩
theorem P_X11_110 : sP RX11 110 7 17 .int false := ⟨RX11, TX11, 29, "TagFieldModel", tyX11, rfl, by decide, lay_X11, Or.inl wi_691, Or.inl rfl, rfl, by decide +kernel, tab_X11, fun h => by cases h⟩
theorem F_X11_45 : sF RX11 45 7 18 := ⟨RX11, TX11, 29, "TagFieldModel", rfl, by decide, lay_X11, Or.inl wi_692, Or.inl rfl⟩
theorem P_X11_45 : sP RX11 45 7 18 (.array .int) true := ⟨RX11, TX11, 29, "TagFieldModel", tyX11, rfl, by decide, lay_X11, Or.inl wi_692, Or.inl rfl, rfl, by decide +kernel, tab_X11, fun _ => rfl⟩
theorem F_X11_139 : sF RX11 139 7 19 := ⟨RX11, TX11, 29, "TagFieldModel", rfl, by decide, lay_X11, Or.inl wi_693, Or.inl rfl⟩
theorem P_X11_139 : sP RX11 139 7 19 .int false := ⟨RX11, TX11, 29, "TagFieldModel", tyX11, rfl, by decide, lay_X11, Or.inl wi_693, Or.inl rfl, rfl, by decide +kernel, tab_X11, fun h => by cases h⟩
theorem F_X11_48 : sF RX11 48 7 20 := ⟨RX11, TX11, 29, "TagFieldModel", rfl, by decide, lay_X11, Or.inl wi_694, Or.inl rfl⟩
theorem P_X11_48 : sP RX11 48 7 20 (.array .int) true := ⟨RX11, TX11, 29, "TagFieldModel", tyX11, rfl, by decide, lay_X11, Or.inl wi_694, Or.inl rfl, rfl, by decide +kernel, tab_X11, fun _ => rfl⟩
theorem F_X11_151 : sF RX11 151 7 21 := ⟨RX11, TX11, 29, "TagFieldModel", rfl, by decide, lay_X11, Or.inl wi_695, Or.inl rfl⟩
theorem P_X11_151 : sP RX11 151 7 21 .int false := ⟨RX11, TX11, 29, "TagFieldModel", tyX11, rfl, by decide, lay_X11, Or.inl wi_695, Or.inl rfl, rfl, by decide +kernel, tab_X11, fun h => by cases h⟩
theorem F_X11_51 : sF RX11 51 7 22 := ⟨RX11, TX11, 29, "TagFieldModel", rfl, by decide, lay_X11, Or.inl wi_696, Or.inl rfl⟩
theorem P_X11_51 : sP RX11 51 7 22 (.array .int) true := ⟨RX11, TX11, 29, "TagFieldModel", tyX11, rfl, by decide, lay_X11, Or.inl wi_696, Or.inl rfl, rfl, by decide +kernel, tab_X11, fun _ => rfl⟩
theorem F_X11_136 : sF RX11 136 7 23 := ⟨RX11, TX11, 29, "TagFieldModel", rfl, by decide, lay_X11, Or.inl wi_697, Or.inl rfl⟩
theorem P_X11_136 : sP RX11 136 7 23 .int false := ⟨RX11, TX11, 29, "TagFieldModel", tyX11, rfl, by decide, lay_X11, Or.inl wi_697, Or.inl rfl, rfl, by decide +kernel, tab_X11, fun h => by cases h⟩
theorem F_X11_169 : sF RX11 169 7 24 := ⟨RX11, TX11, 29, "TagFieldModel", rfl, by decide, lay_X11, Or.inl wi_698, Or.inl rfl⟩
theorem P_X11_169 : sP RX11 169 7 24 .int false := ⟨RX11, TX11, 29, "TagFieldModel", tyX11, rfl, by decide, lay_X11, Or.inl wi_698, Or.inl rfl, rfl, by decide +kernel, tab_X11, fun h => by cases h⟩
theorem F_X11_54 : sF RX11 54 7 25 := ⟨RX11, TX11, 29, "TagFieldModel", rfl, by decide, lay_X11, Or.inl wi_699, Or.inl rfl⟩
theorem P_X11_54 : sP RX11 54 7 25 (.array .int) true := ⟨RX11, TX11, 29, "TagFieldModel", tyX11, rfl, by decide, lay_X11, Or.inl wi_699, Or.inl rfl, rfl, by decide +kernel, tab_X11, fun _ => rfl⟩
theorem F_X11_57 : sF RX11 57 7 26 := ⟨RX11, TX11, 29, "TagFieldModel", rfl, by decide, lay_X11, Or.inl wi_700, Or.inl rfl⟩
theorem P_X11_57 : sP RX11 57 7 26 (.array .int) true := ⟨RX11, TX11, 29, "TagFieldModel", tyX11, rfl, by decide, lay_X11, Or.inl wi_700, Or.inl rfl, rfl, by decide +kernel, tab_X11, fun _ => rfl⟩
theorem F_X11_157 : sF RX11 157 7 27 := ⟨RX11, TX11, 29, "TagFieldModel", rfl, by decide, lay_X11, Or.inl wi_701, Or.inl rfl⟩
theorem P_X11_157 : sP RX11 157 7 27 .int false := ⟨RX11, TX11, 29, "TagFieldModel", tyX11, rfl, by decide, lay_X11, Or.inl wi_701, Or.inl rfl, rfl, by decide +kernel, tab_X11, fun h => by cases h⟩
theorem F_X11_60 : sF RX11 60 7 28 := ⟨RX11, TX11, 29, "TagFieldModel", rfl, by decide, lay_X11, Or.inl wi_702, Or.inl rfl⟩
theorem P_X11_60 : sP RX11 60 7 28 (.array .int) true := ⟨RX11, TX11, 29, "TagFieldModel", tyX11, rfl, by decide, lay_X11, Or.inl wi_702, Or.inl rfl, rfl, by decide +kernel, tab_X11, fun _ => rfl⟩
theorem M_L_9 : mV RL 9 yX10_init cX10_init 1 (none : Option Jvm.ClassFile.FieldType) 0 := ⟨wi_69, wi_41, ⟨by decide, by decide⟩, by decide +kernel, Or.inl wi_67⟩
theorem M_X10_11 : mV RX10 11 yX8_init cX8_init 2 (none : Option Jvm.ClassFile.FieldType) 1 := ⟨wi_77, wi_42, ⟨by decide, by decide⟩, by decide +kernel, Or.inl wi_75⟩
theorem M_X10_20 : mV RX10 20 yX2_init cX2_init 1 (none : Option Jvm.ClassFile.FieldType) 0 := ⟨wi_93, wi_43, ⟨by decide, by decide⟩, by decide +kernel, Or.inr ⟨_, wi_91⟩⟩
theorem M_X10_27 : mV RX10 27 yX1_init cX1_init 1 (none : Option Jvm.ClassFile.FieldType) 0 := ⟨wi_110, wi_44, ⟨by decide, by decide⟩, by decide +kernel, Or.inr ⟨_, wi_108⟩⟩
theorem M_X1_9 : mV RX1 9 yJx4a65c_init_da8c8 cJx4a65c_init_da8c8 1 (none : Option Jvm.ClassFile.FieldType) 0 := ⟨wi_116, wi_47, ⟨by decide, by decide⟩, by decide +kernel, Or.inl wi_114⟩
theorem M_Jx4a65c_1 : mV RJx4a65c 1 yJxc12de_init_da8c8 cJxc12de_init_da8c8 1 (none : Option Jvm.ClassFile.FieldType) 0 := ⟨wi_119, wi_46, ⟨by decide, by decide⟩, by decide +kernel, Or.inl wi_117⟩
theorem M_Jxc12de_1 : mV RJxc12de 1 yJxa1e45_init_da8c8 cJxa1e45_init_da8c8 1 (none : Option Jvm.ClassFile.FieldType) 0 := ⟨wi_122, wi_45, ⟨by decide, by decide⟩, by decide +kernel, Or.inl wi_120⟩
theorem M_X1_18 : mV RX1 18 yX4_init cX4_init 1 (none : Option Jvm.ClassFile.FieldType) 0 := ⟨wi_142, wi_48, ⟨by decide, by decide⟩, by decide +kernel, Or.inr ⟨_, wi_140⟩⟩
theorem M_X10_34 : mV RX10 34 yX6_init cX6_init 1 (none : Option Jvm.ClassFile.FieldType) 0 := ⟨wi_185, wi_51, ⟨by decide, by decide⟩, by decide +kernel, Or.inr ⟨_, wi_183⟩⟩
theorem M_X6_11 : mV RX6 11 yX8_init cX8_init 2 (none : Option Jvm.ClassFile.FieldType) 1 := ⟨wi_77, wi_42, ⟨by decide, by decide⟩, by decide +kernel, Or.inl wi_188⟩
theorem M_X6_22 : mV RX6 22 yX2_init cX2_init 1 (none : Option Jvm.ClassFile.FieldType) 0 := ⟨wi_93, wi_43, ⟨by decide, by decide⟩, by decide +kernel, Or.inr ⟨_, wi_190⟩⟩
theorem M_L_13 : mV RL 13 yX10_tag cX10_tag 6 (some FieldType.int) 4 := ⟨wi_230, wi_41, ⟨by decide, by decide⟩, by decide +kernel, Or.inl wi_227⟩
theorem M_X10_41 : mV RX10 41 yX9_init cX9_init 6 (none : Option Jvm.ClassFile.FieldType) 4 := ⟨wi_235, wi_53, ⟨by decide, by decide⟩, by decide +kernel, Or.inl wi_233⟩
theorem M_X9_29 : mV RX9 29 yX9_shownAt cX9_shownAt 10 (some FieldType.long) 5 := ⟨wi_239, wi_53, ⟨by decide, by decide⟩, by decide +kernel, Or.inl wi_237⟩
theorem M_X9_35 : mV RX9 35 yX9_numberByte cX9_numberByte 5 (some FieldType.int) 4 := ⟨wi_243, wi_53, ⟨by decide, by decide⟩, by decide +kernel, Or.inl wi_241⟩
theorem M_X10_44 : mV RX10 44 yX9_looksUnfinished cX9_looksUnfinished 1 (some FieldType.boolean) 0 := ⟨wi_265, wi_53, ⟨by decide, by decide⟩, by decide +kernel, Or.inl wi_262⟩
theorem M_X10_48 : mV RX10 48 yX1_knowsNumberOf cX1_knowsNumberOf 3 (some FieldType.boolean) 1 := ⟨wi_269, wi_44, ⟨by decide, by decide⟩, by decide +kernel, Or.inl wi_266⟩
theorem M_X1_27 : mV RX1 27 yJx4a65c_size_8abf5 cJx4a65c_size_8abf5 1 (some FieldType.int) 0 := ⟨wi_273, wi_47, ⟨by decide, by decide⟩, by decide +kernel, Or.inl wi_270⟩
theorem M_X1_31 : mV RX1 31 yJx4a65c_get_915e3 cJx4a65c_get_915e3 2 (some (FieldType.object "java/lang/Object")) 1 := ⟨wi_277, wi_47, ⟨by decide, by decide⟩, by decide +kernel, Or.inl wi_274⟩
theorem M_Jx4a65c_118 : mV RJx4a65c 118 yJ15_checkIndex_7cf53 cJ15_checkIndex_7cf53 2 (some FieldType.int) 2 := ⟨wi_280, wi_54, ⟨by decide, by decide⟩, by decide +kernel, Or.inl wi_278⟩
theorem M_J15_105 : mV RJ15 105 yJ3_checkIndex_8e157 cJ3_checkIndex_8e157 3 (some FieldType.int) 3 := ⟨wi_283, wi_55, ⟨by decide, by decide⟩, by decide +kernel, Or.inl wi_281⟩
theorem M_Jx4a65c_123 : mV RJx4a65c 123 yJx4a65c_elementData_915e3 cJx4a65c_elementData_915e3 2 (some (FieldType.object "java/lang/Object")) 1 := ⟨wi_287, wi_47, ⟨by decide, by decide⟩, by decide +kernel, Or.inl wi_284⟩
theorem M_X1_37 : mV RX1 37 yX9_hasNumberOf cX9_hasNumberOf 3 (some FieldType.boolean) 1 := ⟨wi_292, wi_53, ⟨by decide, by decide⟩, by decide +kernel, Or.inl wi_289⟩
theorem M_X10_52 : mV RX10 52 yX1_count cX1_count 1 (some FieldType.int) 0 := ⟨wi_296, wi_44, ⟨by decide, by decide⟩, by decide +kernel, Or.inl wi_293⟩
theorem M_X10_56 : mV RX10 56 yX1_bring cX1_bring 2 (some FieldType.int) 1 := ⟨wi_300, wi_44, ⟨by decide, by decide⟩, by decide +kernel, Or.inl wi_297⟩
theorem M_X1_41 : mV RX1 41 yX9_beginAnew cX9_beginAnew 2 (none : Option Jvm.ClassFile.FieldType) 1 := ⟨wi_304, wi_53, ⟨by decide, by decide⟩, by decide +kernel, Or.inl wi_301⟩
theorem M_X1_45 : mV RX1 45 yJx4a65c_add_9ea2d cJx4a65c_add_9ea2d 2 (some FieldType.boolean) 1 := ⟨wi_308, wi_47, ⟨by decide, by decide⟩, by decide +kernel, Or.inl wi_305⟩
theorem M_Jx4a65c_131 : mV RJx4a65c 131 yJx4a65c_add_72be8 cJx4a65c_add_72be8 4 (none : Option Jvm.ClassFile.FieldType) 3 := ⟨wi_312, wi_47, ⟨by decide, by decide⟩, by decide +kernel, Or.inl wi_309⟩
theorem M_Jx4a65c_129 : mV RJx4a65c 129 yJx4a65c_grow_d5877 cJx4a65c_grow_d5877 1 (some (FieldType.array (FieldType.object "java/lang/Object"))) 0 := ⟨wi_316, wi_47, ⟨by decide, by decide⟩, by decide +kernel, Or.inl wi_313⟩
theorem M_Jx4a65c_69 : mV RJx4a65c 69 yJx4a65c_grow_92f84 cJx4a65c_grow_92f84 4 (some (FieldType.array (FieldType.object "java/lang/Object"))) 1 := ⟨wi_320, wi_47, ⟨by decide, by decide⟩, by decide +kernel, Or.inl wi_317⟩
theorem M_Jx4a65c_73 : mV RJx4a65c 73 yJ8_newLength_cabcc cJ8_newLength_cabcc 4 (some FieldType.int) 3 := ⟨wi_323, wi_56, ⟨by decide, by decide⟩, by decide +kernel, Or.inl wi_321⟩
theorem M_J8_194 : mV RJ8 194 yJ9_max_7cf53 cJ9_max_7cf53 2 (some FieldType.int) 2 := ⟨wi_326, wi_57, ⟨by decide, by decide⟩, by decide +kernel, Or.inl wi_324⟩
theorem M_J8_201 : mV RJ8 201 yJ8_hugeLength_7cf53 cJ8_hugeLength_7cf53 3 (some FieldType.int) 2 := ⟨wi_330, wi_56, ⟨by decide, by decide⟩, by decide +kernel, Or.inl wi_328⟩
theorem M_Jx4a65c_66 : mV RJx4a65c 66 yJ7_copyOf_1904c cJ7_copyOf_1904c 2 (some (FieldType.array (FieldType.object "java/lang/Object"))) 2 := ⟨wi_333, wi_58, ⟨by decide, by decide⟩, by decide +kernel, Or.inl wi_331⟩
theorem M_J7_300 : mV RJ7 300 yJ7_copyOf_6403c cJ7_copyOf_6403c 4 (some (FieldType.array (FieldType.object "java/lang/Object"))) 3 := ⟨wi_351, wi_58, ⟨by decide, by decide⟩, by decide +kernel, Or.inl wi_349⟩
theorem M_J7_304 : mV RJ7 304 yJ9_min_7cf53 cJ9_min_7cf53 2 (some FieldType.int) 2 := ⟨wi_357, wi_57, ⟨by decide, by decide⟩, by decide +kernel, Or.inl wi_355⟩
theorem M_Jx4a65c_79 : mV RJx4a65c 79 yJ9_max_7cf53 cJ9_max_7cf53 2 (some FieldType.int) 2 := ⟨wi_326, wi_57, ⟨by decide, by decide⟩, by decide +kernel, Or.inl wi_361⟩
theorem M_L_18 : mV RL 18 yX10_out cX10_out 3 (some FieldType.int) 2 := ⟨wi_366, wi_41, ⟨by decide, by decide⟩, by decide +kernel, Or.inl wi_363⟩
theorem M_X10_60 : mV RX10 60 yX1_knows cX1_knows 2 (some FieldType.boolean) 1 := ⟨wi_370, wi_44, ⟨by decide, by decide⟩, by decide +kernel, Or.inl wi_367⟩
theorem M_X10_64 : mV RX10 64 yX1_move cX1_move 3 (some FieldType.int) 2 := ⟨wi_374, wi_44, ⟨by decide, by decide⟩, by decide +kernel, Or.inl wi_371⟩
theorem M_X1_49 : mV RX1 49 yX9_move cX9_move 3 (some FieldType.boolean) 2 := ⟨wi_378, wi_53, ⟨by decide, by decide⟩, by decide +kernel, Or.inl wi_375⟩
theorem M_X9_41 : mV RX9 41 yX9_beginAnew cX9_beginAnew 2 (none : Option Jvm.ClassFile.FieldType) 1 := ⟨wi_304, wi_53, ⟨by decide, by decide⟩, by decide +kernel, Or.inl wi_379⟩
theorem M_L_23 : mV RL 23 yX10_field cX10_field 2 (some FieldType.int) 1 := ⟨wi_383, wi_41, ⟨by decide, by decide⟩, by decide +kernel, Or.inl wi_380⟩
theorem M_X10_68 : mV RX10 68 yX1_turn cX1_turn 3 (some FieldType.int) 1 := ⟨wi_387, wi_44, ⟨by decide, by decide⟩, by decide +kernel, Or.inl wi_384⟩
theorem M_L_28 : mV RL 28 yX10_bits cX10_bits 3 (some FieldType.int) 2 := ⟨wi_391, wi_41, ⟨by decide, by decide⟩, by decide +kernel, Or.inl wi_388⟩
theorem M_X10_72 : mV RX10 72 yX8_hasRoomFor cX8_hasRoomFor 2 (some FieldType.boolean) 1 := ⟨wi_395, wi_42, ⟨by decide, by decide⟩, by decide +kernel, Or.inl wi_392⟩
theorem M_X10_75 : mV RX10 75 yX8_addBits cX8_addBits 4 (none : Option Jvm.ClassFile.FieldType) 2 := ⟨wi_399, wi_42, ⟨by decide, by decide⟩, by decide +kernel, Or.inl wi_396⟩
theorem M_L_33 : mV RL 33 yX10_octet cX10_octet 2 (some FieldType.int) 1 := ⟨wi_403, wi_41, ⟨by decide, by decide⟩, by decide +kernel, Or.inl wi_400⟩
theorem M_X10_83 : mV RX10 83 yX8_addOctet cX8_addOctet 2 (none : Option Jvm.ClassFile.FieldType) 1 := ⟨wi_407, wi_42, ⟨by decide, by decide⟩, by decide +kernel, Or.inl wi_404⟩
theorem M_X8_19 : mV RX8 19 yX3_octetsOf cX3_octetsOf 10 (some FieldType.long) 2 := ⟨wi_410, wi_60, ⟨by decide, by decide⟩, by decide +kernel, Or.inl wi_408⟩
theorem M_X3_11 : mV RX3 11 yJ13_bitCount_95d88 cJ13_bitCount_95d88 2 (some FieldType.int) 1 := ⟨wi_414, wi_61, ⟨by decide, by decide⟩, by decide +kernel, Or.inl wi_412⟩
theorem M_X8_25 : mV RX8 25 yX8_addBits cX8_addBits 4 (none : Option Jvm.ClassFile.FieldType) 2 := ⟨wi_399, wi_42, ⟨by decide, by decide⟩, by decide +kernel, Or.inl wi_418⟩
theorem M_L_38 : mV RL 38 yX10_check cX10_check 2 (some FieldType.int) 0 := ⟨wi_422, wi_41, ⟨by decide, by decide⟩, by decide +kernel, Or.inl wi_419⟩
theorem M_X10_86 : mV RX10 86 yX8_beginsWithOctets cX8_beginsWithOctets 3 (some FieldType.boolean) 1 := ⟨wi_426, wi_42, ⟨by decide, by decide⟩, by decide +kernel, Or.inl wi_423⟩
theorem M_X8_37 : mV RX8 37 yX8_valueAt cX8_valueAt 5 (some FieldType.int) 2 := ⟨wi_430, wi_42, ⟨by decide, by decide⟩, by decide +kernel, Or.inl wi_427⟩
theorem M_X8_41 : mV RX8 41 yJ6_bitCount_0f7a4 cJ6_bitCount_0f7a4 1 (some FieldType.int) 1 := ⟨wi_433, wi_62, ⟨by decide, by decide⟩, by decide +kernel, Or.inl wi_431⟩
theorem M_X10_89 : mV RX10 89 yX8_addCheck cX8_addCheck 2 (none : Option Jvm.ClassFile.FieldType) 0 := ⟨wi_440, wi_42, ⟨by decide, by decide⟩, by decide +kernel, Or.inl wi_437⟩
theorem M_X8_29 : mV RX8 29 yX8_checkOf cX8_checkOf 4 (some FieldType.int) 1 := ⟨wi_444, wi_42, ⟨by decide, by decide⟩, by decide +kernel, Or.inl wi_441⟩
theorem M_X8_46 : mV RX8 46 yX3_checkStep cX3_checkStep 3 (some FieldType.int) 2 := ⟨wi_447, wi_60, ⟨by decide, by decide⟩, by decide +kernel, Or.inl wi_445⟩
theorem M_X8_33 : mV RX8 33 yX8_addOctet cX8_addOctet 2 (none : Option Jvm.ClassFile.FieldType) 1 := ⟨wi_407, wi_42, ⟨by decide, by decide⟩, by decide +kernel, Or.inl wi_449⟩
theorem M_L_43 : mV RL 43 yX10_go cX10_go 2 (some FieldType.int) 0 := ⟨wi_453, wi_41, ⟨by decide, by decide⟩, by decide +kernel, Or.inl wi_450⟩
theorem M_X10_92 : mV RX10 92 yX1_send cX1_send 5 (some FieldType.int) 2 := ⟨wi_457, wi_44, ⟨by decide, by decide⟩, by decide +kernel, Or.inl wi_454⟩
theorem M_X1_60 : mV RX1 60 yX2_clear cX2_clear 1 (none : Option Jvm.ClassFile.FieldType) 0 := ⟨wi_461, wi_43, ⟨by decide, by decide⟩, by decide +kernel, Or.inl wi_458⟩
theorem M_X1_65 : mV RX1 65 yX4_read cX4_read 5 (none : Option Jvm.ClassFile.FieldType) 1 := ⟨wi_465, wi_48, ⟨by decide, by decide⟩, by decide +kernel, Or.inl wi_462⟩
theorem M_X4_26 : mV RX4 26 yX8_valueAt cX8_valueAt 5 (some FieldType.int) 2 := ⟨wi_430, wi_42, ⟨by decide, by decide⟩, by decide +kernel, Or.inl wi_466⟩
theorem M_X4_33 : mV RX4 33 yX4_levelOf cX4_levelOf 2 (some FieldType.int) 1 := ⟨wi_469, wi_48, ⟨by decide, by decide⟩, by decide +kernel, Or.inl wi_467⟩
theorem M_X4_87 : mV RX4 87 yX4_levelByte cX4_levelByte 1 (some FieldType.int) 1 := ⟨wi_472, wi_48, ⟨by decide, by decide⟩, by decide +kernel, Or.inl wi_470⟩
theorem M_X4_40 : mV RX4 40 yX4_kindOfShort cX4_kindOfShort 1 (some (FieldType.object "TagField$Kind")) 1 := ⟨wi_475, wi_48, ⟨by decide, by decide⟩, by decide +kernel, Or.inl wi_473⟩
theorem M_X4_44 : mV RX4 44 yX8_beginsWithOctets cX8_beginsWithOctets 3 (some FieldType.boolean) 1 := ⟨wi_426, wi_42, ⟨by decide, by decide⟩, by decide +kernel, Or.inl wi_480⟩
theorem M_X4_51 : mV RX4 51 yX4_readTold cX4_readTold 5 (none : Option Jvm.ClassFile.FieldType) 3 := ⟨wi_486, wi_48, ⟨by decide, by decide⟩, by decide +kernel, Or.inl wi_483⟩
theorem M_X4_55 : mV RX4 55 yX8_checkOf cX8_checkOf 4 (some FieldType.int) 1 := ⟨wi_444, wi_42, ⟨by decide, by decide⟩, by decide +kernel, Or.inl wi_487⟩
theorem M_X4_61 : mV RX4 61 yX4_kindOfCommand cX4_kindOfCommand 3 (some (FieldType.object "TagField$Kind")) 2 := ⟨wi_493, wi_48, ⟨by decide, by decide⟩, by decide +kernel, Or.inl wi_490⟩
theorem M_X1_69 : mV RX1 69 yX9_hear cX9_hear 3 (some (FieldType.object "TagField$Reply")) 1 := ⟨wi_503, wi_53, ⟨by decide, by decide⟩, by decide +kernel, Or.inl wi_500⟩
theorem M_X9_59 : mV RX9 59 yX9_becomeReady cX9_becomeReady 2 (some (FieldType.object "TagField$Reply")) 1 := ⟨wi_509, wi_53, ⟨by decide, by decide⟩, by decide +kernel, Or.inl wi_506⟩
theorem M_X9_82 : mV RX9 82 yX9_become cX9_become 3 (some (FieldType.object "TagField$Reply")) 2 := ⟨wi_515, wi_53, ⟨by decide, by decide⟩, by decide +kernel, Or.inl wi_512⟩
theorem M_X9_69 : mV RX9 69 yX9_hearReady cX9_hearReady 3 (some (FieldType.object "TagField$Reply")) 1 := ⟨wi_521, wi_53, ⟨by decide, by decide⟩, by decide +kernel, Or.inl wi_518⟩
theorem M_X9_93 : mV RX9 93 yX9_showsWhatIsTold cX9_showsWhatIsTold 4 (some FieldType.boolean) 1 := ⟨wi_526, wi_53, ⟨by decide, by decide⟩, by decide +kernel, Or.inl wi_523⟩
theorem M_X9_103 : mV RX9 103 yX9_becomeChosen cX9_becomeChosen 1 (some (FieldType.object "TagField$Reply")) 0 := ⟨wi_533, wi_53, ⟨by decide, by decide⟩, by decide +kernel, Or.inl wi_530⟩
theorem M_X9_107 : mV RX9 107 yX9_goBack cX9_goBack 1 (some (FieldType.object "TagField$Reply")) 0 := ⟨wi_541, wi_53, ⟨by decide, by decide⟩, by decide +kernel, Or.inl wi_538⟩
theorem M_X9_73 : mV RX9 73 yX9_hearActive cX9_hearActive 2 (some (FieldType.object "TagField$Reply")) 1 := ⟨wi_545, wi_53, ⟨by decide, by decide⟩, by decide +kernel, Or.inl wi_542⟩
theorem M_X1_73 : mV RX1 73 yX9_say cX9_say 9 (none : Option Jvm.ClassFile.FieldType) 3 := ⟨wi_556, wi_53, ⟨by decide, by decide⟩, by decide +kernel, Or.inl wi_553⟩
theorem M_X9_142 : mV RX9 142 yX3_octetsOf cX3_octetsOf 10 (some FieldType.long) 2 := ⟨wi_410, wi_60, ⟨by decide, by decide⟩, by decide +kernel, Or.inl wi_565⟩
theorem M_X9_148 : mV RX9 148 yX2_lay cX2_lay 6 (none : Option Jvm.ClassFile.FieldType) 2 := ⟨wi_569, wi_43, ⟨by decide, by decide⟩, by decide +kernel, Or.inl wi_566⟩
theorem M_X2_24 : mV RX2 24 yJ9_max_7cf53 cJ9_max_7cf53 2 (some FieldType.int) 2 := ⟨wi_326, wi_57, ⟨by decide, by decide⟩, by decide +kernel, Or.inl wi_571⟩
theorem M_X9_156 : mV RX9 156 yX3_checkedOctetsOf cX3_checkedOctetsOf 5 (some FieldType.long) 2 := ⟨wi_575, wi_60, ⟨by decide, by decide⟩, by decide +kernel, Or.inl wi_573⟩
theorem M_X3_20 : mV RX3 20 yX3_checkStep cX3_checkStep 3 (some FieldType.int) 2 := ⟨wi_447, wi_60, ⟨by decide, by decide⟩, by decide +kernel, Or.inl wi_576⟩
theorem M_X3_24 : mV RX3 24 yX3_octetsOf cX3_octetsOf 10 (some FieldType.long) 2 := ⟨wi_410, wi_60, ⟨by decide, by decide⟩, by decide +kernel, Or.inl wi_577⟩
theorem M_X10_96 : mV RX10 96 yX8_clear cX8_clear 1 (none : Option Jvm.ClassFile.FieldType) 0 := ⟨wi_583, wi_42, ⟨by decide, by decide⟩, by decide +kernel, Or.inl wi_580⟩
theorem M_L_47 : mV RL 47 yX10_answer cX10_answer 2 (some FieldType.int) 1 := ⟨wi_587, wi_41, ⟨by decide, by decide⟩, by decide +kernel, Or.inl wi_584⟩
theorem M_X10_99 : mV RX10 99 yX2_bitAt cX2_bitAt 4 (some FieldType.int) 1 := ⟨wi_591, wi_43, ⟨by decide, by decide⟩, by decide +kernel, Or.inl wi_588⟩
theorem M_L_51 : mV RL 51 yX10_state cX10_state 2 (some FieldType.int) 1 := ⟨wi_595, wi_41, ⟨by decide, by decide⟩, by decide +kernel, Or.inl wi_592⟩
theorem M_X10_103 : mV RX10 103 yX1_stateOf cX1_stateOf 2 (some FieldType.int) 1 := ⟨wi_599, wi_44, ⟨by decide, by decide⟩, by decide +kernel, Or.inl wi_596⟩
theorem M_X1_53 : mV RX1 53 yX9_stateAndLevel cX9_stateAndLevel 2 (some FieldType.int) 0 := ⟨wi_603, wi_53, ⟨by decide, by decide⟩, by decide +kernel, Or.inl wi_600⟩
theorem M_L_55 : mV RL 55 yX10_round cX10_round 2 (some FieldType.int) 0 := ⟨wi_607, wi_41, ⟨by decide, by decide⟩, by decide +kernel, Or.inl wi_604⟩
theorem M_X10_106 : mV RX10 106 yX6_forget cX6_forget 1 (none : Option Jvm.ClassFile.FieldType) 0 := ⟨wi_611, wi_51, ⟨by decide, by decide⟩, by decide +kernel, Or.inl wi_608⟩
theorem M_X10_109 : mV RX10 109 yX6_findOne cX6_findOne 4 (some FieldType.boolean) 1 := ⟨wi_615, wi_51, ⟨by decide, by decide⟩, by decide +kernel, Or.inl wi_612⟩
theorem M_X6_38 : mV RX6 38 yX8_clear cX8_clear 1 (none : Option Jvm.ClassFile.FieldType) 0 := ⟨wi_583, wi_42, ⟨by decide, by decide⟩, by decide +kernel, Or.inl wi_616⟩
theorem M_X6_41 : mV RX6 41 yX8_addBits cX8_addBits 4 (none : Option Jvm.ClassFile.FieldType) 2 := ⟨wi_399, wi_42, ⟨by decide, by decide⟩, by decide +kernel, Or.inl wi_617⟩
theorem M_X6_45 : mV RX6 45 yX1_send cX1_send 5 (some FieldType.int) 2 := ⟨wi_457, wi_44, ⟨by decide, by decide⟩, by decide +kernel, Or.inl wi_618⟩
theorem M_X6_51 : mV RX6 51 yX6_searchLevel cX6_searchLevel 4 (some FieldType.boolean) 2 := ⟨wi_622, wi_51, ⟨by decide, by decide⟩, by decide +kernel, Or.inl wi_619⟩
theorem M_X6_76 : mV RX6 76 yX6_layOutSearch cX6_layOutSearch 5 (none : Option Jvm.ClassFile.FieldType) 1 := ⟨wi_626, wi_51, ⟨by decide, by decide⟩, by decide +kernel, Or.inl wi_623⟩
theorem M_X6_82 : mV RX6 82 yX4_levelByte cX4_levelByte 1 (some FieldType.int) 1 := ⟨wi_472, wi_48, ⟨by decide, by decide⟩, by decide +kernel, Or.inl wi_627⟩
theorem M_X6_88 : mV RX6 88 yX8_addOctet cX8_addOctet 2 (none : Option Jvm.ClassFile.FieldType) 1 := ⟨wi_407, wi_42, ⟨by decide, by decide⟩, by decide +kernel, Or.inl wi_628⟩
theorem M_X6_91 : mV RX6 91 yX6_knownByte cX6_knownByte 2 (some FieldType.int) 1 := ⟨wi_632, wi_51, ⟨by decide, by decide⟩, by decide +kernel, Or.inl wi_629⟩
theorem M_X6_79 : mV RX6 79 yX6_learn cX6_learn 4 (none : Option Jvm.ClassFile.FieldType) 0 := ⟨wi_636, wi_51, ⟨by decide, by decide⟩, by decide +kernel, Or.inl wi_633⟩
theorem M_X6_94 : mV RX6 94 yX2_bitAt cX2_bitAt 4 (some FieldType.int) 1 := ⟨wi_591, wi_43, ⟨by decide, by decide⟩, by decide +kernel, Or.inl wi_637⟩
theorem M_X6_55 : mV RX6 55 yX6_choose cX6_choose 4 (some FieldType.boolean) 2 := ⟨wi_641, wi_51, ⟨by decide, by decide⟩, by decide +kernel, Or.inl wi_638⟩
theorem M_X6_97 : mV RX6 97 yX8_addCheck cX8_addCheck 2 (none : Option Jvm.ClassFile.FieldType) 0 := ⟨wi_440, wi_42, ⟨by decide, by decide⟩, by decide +kernel, Or.inl wi_642⟩
theorem M_X6_58 : mV RX6 58 yX2_beginsWith cX2_beginsWith 2 (some FieldType.boolean) 1 := ⟨wi_646, wi_43, ⟨by decide, by decide⟩, by decide +kernel, Or.inl wi_643⟩
theorem M_X6_62 : mV RX6 62 yX6_keepBytes cX6_keepBytes 3 (none : Option Jvm.ClassFile.FieldType) 1 := ⟨wi_651, wi_51, ⟨by decide, by decide⟩, by decide +kernel, Or.inl wi_648⟩
theorem M_X6_65 : mV RX6 65 yX6_halt cX6_halt 2 (none : Option Jvm.ClassFile.FieldType) 1 := ⟨wi_655, wi_51, ⟨by decide, by decide⟩, by decide +kernel, Or.inl wi_652⟩
theorem M_L_59 : mV RL 59 yX10_found cX10_found 3 (some FieldType.int) 2 := ⟨wi_659, wi_41, ⟨by decide, by decide⟩, by decide +kernel, Or.inl wi_656⟩
theorem M_X10_115 : mV RX10 115 yX6_byteFound cX6_byteFound 3 (some FieldType.int) 2 := ⟨wi_663, wi_51, ⟨by decide, by decide⟩, by decide +kernel, Or.inl wi_660⟩
theorem M_L_63 : mV RL 63 yX10_frames cX10_frames 1 (some FieldType.int) 0 := ⟨wi_667, wi_41, ⟨by decide, by decide⟩, by decide +kernel, Or.inl wi_664⟩
theorem M_L_12 : mV RL 12 yX11_init cX11_init 1 (none : Option Jvm.ClassFile.FieldType) 0 := ⟨wi_672, wi_52, ⟨by decide, by decide⟩, by decide +kernel, Or.inl wi_670⟩
theorem M_L_17 : mV RL 17 yX11_tag cX11_tag 10 (some FieldType.int) 4 := ⟨wi_766, wi_52, ⟨by decide, by decide⟩, by decide +kernel, Or.inl wi_763⟩
theorem M_X11_63 : mV RX11 63 yX11_byteFrom cX11_byteFrom 6 (some FieldType.int) 4 := ⟨wi_770, wi_52, ⟨by decide, by decide⟩, by decide +kernel, Or.inl wi_767⟩
theorem M_X11_71 : mV RX11 71 yX11_show cX11_show 10 (none : Option Jvm.ClassFile.FieldType) 6 := ⟨wi_774, wi_52, ⟨by decide, by decide⟩, by decide +kernel, Or.inl wi_771⟩
theorem M_L_22 : mV RL 22 yX11_out cX11_out 3 (some FieldType.int) 2 := ⟨wi_778, wi_52, ⟨by decide, by decide⟩, by decide +kernel, Or.inl wi_775⟩
theorem M_X11_75 : mV RX11 75 yX11_isTag cX11_isTag 2 (some FieldType.boolean) 1 := ⟨wi_782, wi_52, ⟨by decide, by decide⟩, by decide +kernel, Or.inl wi_779⟩
theorem M_L_27 : mV RL 27 yX11_field cX11_field 3 (some FieldType.int) 1 := ⟨wi_786, wi_52, ⟨by decide, by decide⟩, by decide +kernel, Or.inl wi_783⟩
theorem M_L_32 : mV RL 32 yX11_bits cX11_bits 4 (some FieldType.int) 2 := ⟨wi_790, wi_52, ⟨by decide, by decide⟩, by decide +kernel, Or.inl wi_787⟩
theorem M_L_37 : mV RL 37 yX11_octet cX11_octet 2 (some FieldType.int) 1 := ⟨wi_794, wi_52, ⟨by decide, by decide⟩, by decide +kernel, Or.inl wi_791⟩
theorem M_X11_86 : mV RX11 86 yX11_type cX11_type 3 (some FieldType.int) 1 := ⟨wi_798, wi_52, ⟨by decide, by decide⟩, by decide +kernel, Or.inl wi_795⟩
theorem M_X11_82 : mV RX11 82 yX11_parity cX11_parity 3 (some FieldType.int) 1 := ⟨wi_801, wi_52, ⟨by decide, by decide⟩, by decide +kernel, Or.inl wi_799⟩
theorem M_L_42 : mV RL 42 yX11_check cX11_check 4 (some FieldType.int) 0 := ⟨wi_805, wi_52, ⟨by decide, by decide⟩, by decide +kernel, Or.inl wi_802⟩
theorem M_X11_90 : mV RX11 90 yX11_read cX11_read 4 (some FieldType.int) 2 := ⟨wi_808, wi_52, ⟨by decide, by decide⟩, by decide +kernel, Or.inl wi_806⟩
theorem M_X11_94 : mV RX11 94 yX11_checked cX11_checked 3 (some FieldType.int) 2 := ⟨wi_811, wi_52, ⟨by decide, by decide⟩, by decide +kernel, Or.inl wi_809⟩
theorem M_L_46 : mV RL 46 yX11_go cX11_go 2 (some FieldType.int) 0 := ⟨wi_816, wi_52, ⟨by decide, by decide⟩, by decide +kernel, Or.inl wi_813⟩
theorem M_X11_148 : mV RX11 148 yX11_send cX11_send 3 (none : Option Jvm.ClassFile.FieldType) 0 := ⟨wi_820, wi_52, ⟨by decide, by decide⟩, by decide +kernel, Or.inl wi_817⟩
theorem M_X11_142 : mV RX11 142 yX11_understand cX11_understand 7 (none : Option Jvm.ClassFile.FieldType) 0 := ⟨wi_824, wi_52, ⟨by decide, by decide⟩, by decide +kernel, Or.inl wi_821⟩
theorem M_X11_145 : mV RX11 145 yX11_hear cX11_hear 6 (none : Option Jvm.ClassFile.FieldType) 1 := ⟨wi_828, wi_52, ⟨by decide, by decide⟩, by decide +kernel, Or.inl wi_825⟩
theorem M_X11_117 : mV RX11 117 yX11_begin cX11_begin 3 (none : Option Jvm.ClassFile.FieldType) 2 := ⟨wi_832, wi_52, ⟨by decide, by decide⟩, by decide +kernel, Or.inl wi_829⟩
theorem M_X11_113 : mV RX11 113 yX11_say cX11_say 3 (none : Option Jvm.ClassFile.FieldType) 1 := ⟨wi_836, wi_52, ⟨by decide, by decide⟩, by decide +kernel, Or.inl wi_833⟩
theorem M_X11_121 : mV RX11 121 yX11_shows cX11_shows 4 (some FieldType.boolean) 1 := ⟨wi_840, wi_52, ⟨by decide, by decide⟩, by decide +kernel, Or.inl wi_837⟩
theorem M_X11_124 : mV RX11 124 yX11_sayRest cX11_sayRest 6 (none : Option Jvm.ClassFile.FieldType) 1 := ⟨wi_844, wi_52, ⟨by decide, by decide⟩, by decide +kernel, Or.inl wi_841⟩
theorem M_X11_127 : mV RX11 127 yX11_levels cX11_levels 2 (some FieldType.int) 1 := ⟨wi_848, wi_52, ⟨by decide, by decide⟩, by decide +kernel, Or.inl wi_845⟩
theorem M_X11_130 : mV RX11 130 yX11_sayChecked cX11_sayChecked 4 (none : Option Jvm.ClassFile.FieldType) 1 := ⟨wi_852, wi_52, ⟨by decide, by decide⟩, by decide +kernel, Or.inl wi_849⟩
theorem M_X11_133 : mV RX11 133 yX11_back cX11_back 2 (none : Option Jvm.ClassFile.FieldType) 1 := ⟨wi_856, wi_52, ⟨by decide, by decide⟩, by decide +kernel, Or.inl wi_853⟩
theorem M_L_50 : mV RL 50 yX11_answer cX11_answer 2 (some FieldType.int) 1 := ⟨wi_860, wi_52, ⟨by decide, by decide⟩, by decide +kernel, Or.inl wi_857⟩
theorem M_L_54 : mV RL 54 yX11_state cX11_state 2 (some FieldType.int) 1 := ⟨wi_864, wi_52, ⟨by decide, by decide⟩, by decide +kernel, Or.inl wi_861⟩
theorem M_L_58 : mV RL 58 yX11_round cX11_round 7 (some FieldType.int) 0 := ⟨wi_868, wi_52, ⟨by decide, by decide⟩, by decide +kernel, Or.inl wi_865⟩
theorem M_X11_172 : mV RX11 172 yX11_sendShort cX11_sendShort 3 (none : Option Jvm.ClassFile.FieldType) 1 := ⟨wi_872, wi_52, ⟨by decide, by decide⟩, by decide +kernel, Or.inl wi_869⟩
theorem M_X11_175 : mV RX11 175 yX11_knows cX11_knows 4 (some FieldType.boolean) 1 := ⟨wi_876, wi_52, ⟨by decide, by decide⟩, by decide +kernel, Or.inl wi_873⟩
theorem M_X11_163 : mV RX11 163 yX11_sendSearch cX11_sendSearch 3 (none : Option Jvm.ClassFile.FieldType) 1 := ⟨wi_880, wi_52, ⟨by decide, by decide⟩, by decide +kernel, Or.inl wi_877⟩
theorem M_X11_154 : mV RX11 154 yX11_put cX11_put 3 (none : Option Jvm.ClassFile.FieldType) 1 := ⟨wi_884, wi_52, ⟨by decide, by decide⟩, by decide +kernel, Or.inl wi_881⟩
theorem M_X11_160 : mV RX11 160 yX11_knownByte cX11_knownByte 4 (some FieldType.int) 1 := ⟨wi_888, wi_52, ⟨by decide, by decide⟩, by decide +kernel, Or.inl wi_885⟩
theorem M_X11_178 : mV RX11 178 yX11_chooses cX11_chooses 4 (some FieldType.int) 1 := ⟨wi_892, wi_52, ⟨by decide, by decide⟩, by decide +kernel, Or.inl wi_889⟩
theorem M_X11_166 : mV RX11 166 yX11_putChecked cX11_putChecked 3 (none : Option Jvm.ClassFile.FieldType) 0 := ⟨wi_896, wi_52, ⟨by decide, by decide⟩, by decide +kernel, Or.inl wi_893⟩
theorem M_L_62 : mV RL 62 yX11_found cX11_found 3 (some FieldType.int) 2 := ⟨wi_900, wi_52, ⟨by decide, by decide⟩, by decide +kernel, Or.inl wi_897⟩
theorem M_L_66 : mV RL 66 yX11_frames cX11_frames 1 (some FieldType.int) 0 := ⟨wi_904, wi_52, ⟨by decide, by decide⟩, by decide +kernel, Or.inl wi_901⟩
theorem I_X1_init : Cond.instanceMethod yX1_init ∈ tb := wi_109
theorem I_X1_count : Cond.instanceMethod yX1_count ∈ tb := wi_294
theorem V_X1_count : Cond.selects yX1_count.cls yX1_count yX1_count ∈ tb := wi_295
theorem I_X1_knows : Cond.instanceMethod yX1_knows ∈ tb := wi_368
theorem V_X1_knows : Cond.selects yX1_knows.cls yX1_knows yX1_knows ∈ tb := wi_369
theorem I_X1_knowsNumberOf : Cond.instanceMethod yX1_knowsNumberOf ∈ tb := wi_267
theorem V_X1_knowsNumberOf : Cond.selects yX1_knowsNumberOf.cls yX1_knowsNumberOf yX1_knowsNumberOf ∈ tb := wi_268
theorem I_X1_bring : Cond.instanceMethod yX1_bring ∈ tb := wi_298
theorem V_X1_bring : Cond.selects yX1_bring.cls yX1_bring yX1_bring ∈ tb := wi_299
theorem I_X1_move : Cond.instanceMethod yX1_move ∈ tb := wi_372
theorem V_X1_move : Cond.selects yX1_move.cls yX1_move yX1_move ∈ tb := wi_373
theorem I_X1_turn : Cond.instanceMethod yX1_turn ∈ tb := wi_385
theorem V_X1_turn : Cond.selects yX1_turn.cls yX1_turn yX1_turn ∈ tb := wi_386
theorem I_X1_stateOf : Cond.instanceMethod yX1_stateOf ∈ tb := wi_597
theorem V_X1_stateOf : Cond.selects yX1_stateOf.cls yX1_stateOf yX1_stateOf ∈ tb := wi_598
theorem I_X1_send : Cond.instanceMethod yX1_send ∈ tb := wi_455
theorem V_X1_send : Cond.selects yX1_send.cls yX1_send yX1_send ∈ tb := wi_456
theorem I_X2_init : Cond.instanceMethod yX2_init ∈ tb := wi_92
theorem I_X2_clear : Cond.instanceMethod yX2_clear ∈ tb := wi_459
theorem V_X2_clear : Cond.selects yX2_clear.cls yX2_clear yX2_clear ∈ tb := wi_460
theorem I_X2_lay : Cond.instanceMethod yX2_lay ∈ tb := wi_567
theorem V_X2_lay : Cond.selects yX2_lay.cls yX2_lay yX2_lay ∈ tb := wi_568
theorem I_X2_bitAt : Cond.instanceMethod yX2_bitAt ∈ tb := wi_589
theorem V_X2_bitAt : Cond.selects yX2_bitAt.cls yX2_bitAt yX2_bitAt ∈ tb := wi_590
theorem I_X2_beginsWith : Cond.instanceMethod yX2_beginsWith ∈ tb := wi_644
theorem V_X2_beginsWith : Cond.selects yX2_beginsWith.cls yX2_beginsWith yX2_beginsWith ∈ tb := wi_645
theorem S_X3_octetsOf : Cond.static yX3_octetsOf ∈ tb := wi_409
theorem S_X3_checkStep : Cond.static yX3_checkStep ∈ tb := wi_446
theorem S_X3_checkedOctetsOf : Cond.static yX3_checkedOctetsOf ∈ tb := wi_574
theorem I_X4_init : Cond.instanceMethod yX4_init ∈ tb := wi_141
theorem I_X4_read : Cond.instanceMethod yX4_read ∈ tb := wi_463
theorem V_X4_read : Cond.selects yX4_read.cls yX4_read yX4_read ∈ tb := wi_464
theorem S_X4_kindOfShort : Cond.static yX4_kindOfShort ∈ tb := wi_474
theorem I_X4_kindOfCommand : Cond.instanceMethod yX4_kindOfCommand ∈ tb := wi_492
theorem V_X4_kindOfCommand : Cond.selects yX4_kindOfCommand.cls yX4_kindOfCommand yX4_kindOfCommand ∈ tb := wi_4
theorem I_X4_readTold : Cond.instanceMethod yX4_readTold ∈ tb := wi_485
theorem V_X4_readTold : Cond.selects yX4_readTold.cls yX4_readTold yX4_readTold ∈ tb := wi_3
theorem S_X4_levelOf : Cond.static yX4_levelOf ∈ tb := wi_468
theorem S_X4_levelByte : Cond.static yX4_levelByte ∈ tb := wi_471
theorem I_X6_init : Cond.instanceMethod yX6_init ∈ tb := wi_184
theorem I_X6_forget : Cond.instanceMethod yX6_forget ∈ tb := wi_609
theorem V_X6_forget : Cond.selects yX6_forget.cls yX6_forget yX6_forget ∈ tb := wi_610
theorem I_X6_byteFound : Cond.instanceMethod yX6_byteFound ∈ tb := wi_661
theorem V_X6_byteFound : Cond.selects yX6_byteFound.cls yX6_byteFound yX6_byteFound ∈ tb := wi_662
theorem I_X6_findOne : Cond.instanceMethod yX6_findOne ∈ tb := wi_613
theorem V_X6_findOne : Cond.selects yX6_findOne.cls yX6_findOne yX6_findOne ∈ tb := wi_614
theorem I_X6_searchLevel : Cond.instanceMethod yX6_searchLevel ∈ tb := wi_621
theorem V_X6_searchLevel : Cond.selects yX6_searchLevel.cls yX6_searchLevel yX6_searchLevel ∈ tb := wi_12
theorem I_X6_layOutSearch : Cond.instanceMethod yX6_layOutSearch ∈ tb := wi_625
theorem V_X6_layOutSearch : Cond.selects yX6_layOutSearch.cls yX6_layOutSearch yX6_layOutSearch ∈ tb := wi_13
theorem I_X6_learn : Cond.instanceMethod yX6_learn ∈ tb := wi_635
theorem V_X6_learn : Cond.selects yX6_learn.cls yX6_learn yX6_learn ∈ tb := wi_15
theorem I_X6_choose : Cond.instanceMethod yX6_choose ∈ tb := wi_640
theorem V_X6_choose : Cond.selects yX6_choose.cls yX6_choose yX6_choose ∈ tb := wi_16
theorem I_X6_halt : Cond.instanceMethod yX6_halt ∈ tb := wi_654
theorem V_X6_halt : Cond.selects yX6_halt.cls yX6_halt yX6_halt ∈ tb := wi_18
theorem I_X6_knownByte : Cond.instanceMethod yX6_knownByte ∈ tb := wi_631
theorem V_X6_knownByte : Cond.selects yX6_knownByte.cls yX6_knownByte yX6_knownByte ∈ tb := wi_14
theorem I_X6_keepBytes : Cond.instanceMethod yX6_keepBytes ∈ tb := wi_650
theorem V_X6_keepBytes : Cond.selects yX6_keepBytes.cls yX6_keepBytes yX6_keepBytes ∈ tb := wi_17
theorem I_X8_init : Cond.instanceMethod yX8_init ∈ tb := wi_76
theorem I_X8_clear : Cond.instanceMethod yX8_clear ∈ tb := wi_581
theorem V_X8_clear : Cond.selects yX8_clear.cls yX8_clear yX8_clear ∈ tb := wi_582
theorem I_X8_hasRoomFor : Cond.instanceMethod yX8_hasRoomFor ∈ tb := wi_393
theorem V_X8_hasRoomFor : Cond.selects yX8_hasRoomFor.cls yX8_hasRoomFor yX8_hasRoomFor ∈ tb := wi_394
theorem I_X8_addBits : Cond.instanceMethod yX8_addBits ∈ tb := wi_397
theorem V_X8_addBits : Cond.selects yX8_addBits.cls yX8_addBits yX8_addBits ∈ tb := wi_398
theorem I_X8_addOctet : Cond.instanceMethod yX8_addOctet ∈ tb := wi_405
theorem V_X8_addOctet : Cond.selects yX8_addOctet.cls yX8_addOctet yX8_addOctet ∈ tb := wi_406
theorem I_X8_addCheck : Cond.instanceMethod yX8_addCheck ∈ tb := wi_438
theorem V_X8_addCheck : Cond.selects yX8_addCheck.cls yX8_addCheck yX8_addCheck ∈ tb := wi_439
theorem I_X8_valueAt : Cond.instanceMethod yX8_valueAt ∈ tb := wi_428
theorem V_X8_valueAt : Cond.selects yX8_valueAt.cls yX8_valueAt yX8_valueAt ∈ tb := wi_429
theorem I_X8_beginsWithOctets : Cond.instanceMethod yX8_beginsWithOctets ∈ tb := wi_424
theorem V_X8_beginsWithOctets : Cond.selects yX8_beginsWithOctets.cls yX8_beginsWithOctets yX8_beginsWithOctets ∈ tb := wi_425
theorem I_X8_checkOf : Cond.instanceMethod yX8_checkOf ∈ tb := wi_442
theorem V_X8_checkOf : Cond.selects yX8_checkOf.cls yX8_checkOf yX8_checkOf ∈ tb := wi_443
theorem I_X9_init : Cond.instanceMethod yX9_init ∈ tb := wi_234
theorem S_X9_shownAt : Cond.static yX9_shownAt ∈ tb := wi_238
theorem S_X9_numberByte : Cond.static yX9_numberByte ∈ tb := wi_242
theorem I_X9_looksUnfinished : Cond.instanceMethod yX9_looksUnfinished ∈ tb := wi_263
theorem V_X9_looksUnfinished : Cond.selects yX9_looksUnfinished.cls yX9_looksUnfinished yX9_looksUnfinished ∈ tb := wi_264
theorem I_X9_hasNumberOf : Cond.instanceMethod yX9_hasNumberOf ∈ tb := wi_290
theorem V_X9_hasNumberOf : Cond.selects yX9_hasNumberOf.cls yX9_hasNumberOf yX9_hasNumberOf ∈ tb := wi_291
theorem I_X9_move : Cond.instanceMethod yX9_move ∈ tb := wi_376
theorem V_X9_move : Cond.selects yX9_move.cls yX9_move yX9_move ∈ tb := wi_377
theorem I_X9_beginAnew : Cond.instanceMethod yX9_beginAnew ∈ tb := wi_302
theorem V_X9_beginAnew : Cond.selects yX9_beginAnew.cls yX9_beginAnew yX9_beginAnew ∈ tb := wi_303
theorem I_X9_stateAndLevel : Cond.instanceMethod yX9_stateAndLevel ∈ tb := wi_601
theorem V_X9_stateAndLevel : Cond.selects yX9_stateAndLevel.cls yX9_stateAndLevel yX9_stateAndLevel ∈ tb := wi_602
theorem I_X9_hear : Cond.instanceMethod yX9_hear ∈ tb := wi_501
theorem V_X9_hear : Cond.selects yX9_hear.cls yX9_hear yX9_hear ∈ tb := wi_502
theorem I_X9_become : Cond.instanceMethod yX9_become ∈ tb := wi_514
theorem V_X9_become : Cond.selects yX9_become.cls yX9_become yX9_become ∈ tb := wi_6
theorem I_X9_becomeReady : Cond.instanceMethod yX9_becomeReady ∈ tb := wi_508
theorem V_X9_becomeReady : Cond.selects yX9_becomeReady.cls yX9_becomeReady yX9_becomeReady ∈ tb := wi_5
theorem I_X9_hearReady : Cond.instanceMethod yX9_hearReady ∈ tb := wi_520
theorem V_X9_hearReady : Cond.selects yX9_hearReady.cls yX9_hearReady yX9_hearReady ∈ tb := wi_7
theorem I_X9_showsWhatIsTold : Cond.instanceMethod yX9_showsWhatIsTold ∈ tb := wi_525
theorem V_X9_showsWhatIsTold : Cond.selects yX9_showsWhatIsTold.cls yX9_showsWhatIsTold yX9_showsWhatIsTold ∈ tb := wi_8
theorem I_X9_becomeChosen : Cond.instanceMethod yX9_becomeChosen ∈ tb := wi_532
theorem V_X9_becomeChosen : Cond.selects yX9_becomeChosen.cls yX9_becomeChosen yX9_becomeChosen ∈ tb := wi_9
theorem I_X9_hearActive : Cond.instanceMethod yX9_hearActive ∈ tb := wi_544
theorem V_X9_hearActive : Cond.selects yX9_hearActive.cls yX9_hearActive yX9_hearActive ∈ tb := wi_11
theorem I_X9_goBack : Cond.instanceMethod yX9_goBack ∈ tb := wi_540
theorem V_X9_goBack : Cond.selects yX9_goBack.cls yX9_goBack yX9_goBack ∈ tb := wi_10
theorem I_X9_say : Cond.instanceMethod yX9_say ∈ tb := wi_554
theorem V_X9_say : Cond.selects yX9_say.cls yX9_say yX9_say ∈ tb := wi_555
theorem I_X10_init : Cond.instanceMethod yX10_init ∈ tb := wi_68
theorem I_X10_tag : Cond.instanceMethod yX10_tag ∈ tb := wi_228
theorem V_X10_tag : Cond.selects yX10_tag.cls yX10_tag yX10_tag ∈ tb := wi_229
theorem I_X10_out : Cond.instanceMethod yX10_out ∈ tb := wi_364
theorem V_X10_out : Cond.selects yX10_out.cls yX10_out yX10_out ∈ tb := wi_365
theorem I_X10_field : Cond.instanceMethod yX10_field ∈ tb := wi_381
theorem V_X10_field : Cond.selects yX10_field.cls yX10_field yX10_field ∈ tb := wi_382
theorem I_X10_bits : Cond.instanceMethod yX10_bits ∈ tb := wi_389
theorem V_X10_bits : Cond.selects yX10_bits.cls yX10_bits yX10_bits ∈ tb := wi_390
theorem I_X10_octet : Cond.instanceMethod yX10_octet ∈ tb := wi_401
theorem V_X10_octet : Cond.selects yX10_octet.cls yX10_octet yX10_octet ∈ tb := wi_402
theorem I_X10_check : Cond.instanceMethod yX10_check ∈ tb := wi_420
theorem V_X10_check : Cond.selects yX10_check.cls yX10_check yX10_check ∈ tb := wi_421
theorem I_X10_go : Cond.instanceMethod yX10_go ∈ tb := wi_451
theorem V_X10_go : Cond.selects yX10_go.cls yX10_go yX10_go ∈ tb := wi_452
theorem I_X10_answer : Cond.instanceMethod yX10_answer ∈ tb := wi_585
theorem V_X10_answer : Cond.selects yX10_answer.cls yX10_answer yX10_answer ∈ tb := wi_586
theorem I_X10_state : Cond.instanceMethod yX10_state ∈ tb := wi_593
theorem V_X10_state : Cond.selects yX10_state.cls yX10_state yX10_state ∈ tb := wi_594
theorem I_X10_round : Cond.instanceMethod yX10_round ∈ tb := wi_605
theorem V_X10_round : Cond.selects yX10_round.cls yX10_round yX10_round ∈ tb := wi_606
theorem I_X10_found : Cond.instanceMethod yX10_found ∈ tb := wi_657
theorem V_X10_found : Cond.selects yX10_found.cls yX10_found yX10_found ∈ tb := wi_658
theorem I_X10_frames : Cond.instanceMethod yX10_frames ∈ tb := wi_665
theorem V_X10_frames : Cond.selects yX10_frames.cls yX10_frames yX10_frames ∈ tb := wi_666
theorem I_X11_init : Cond.instanceMethod yX11_init ∈ tb := wi_671
theorem I_X11_byteFrom : Cond.instanceMethod yX11_byteFrom ∈ tb := wi_769
theorem V_X11_byteFrom : Cond.selects yX11_byteFrom.cls yX11_byteFrom yX11_byteFrom ∈ tb := wi_19
theorem I_X11_show : Cond.instanceMethod yX11_show ∈ tb := wi_773
theorem V_X11_show : Cond.selects yX11_show.cls yX11_show yX11_show ∈ tb := wi_20
theorem I_X11_tag : Cond.instanceMethod yX11_tag ∈ tb := wi_764
theorem V_X11_tag : Cond.selects yX11_tag.cls yX11_tag yX11_tag ∈ tb := wi_765
theorem I_X11_levels : Cond.instanceMethod yX11_levels ∈ tb := wi_847
theorem V_X11_levels : Cond.selects yX11_levels.cls yX11_levels yX11_levels ∈ tb := wi_30
theorem I_X11_isTag : Cond.instanceMethod yX11_isTag ∈ tb := wi_781
theorem V_X11_isTag : Cond.selects yX11_isTag.cls yX11_isTag yX11_isTag ∈ tb := wi_21
theorem I_X11_out : Cond.instanceMethod yX11_out ∈ tb := wi_776
theorem V_X11_out : Cond.selects yX11_out.cls yX11_out yX11_out ∈ tb := wi_777
theorem I_X11_field : Cond.instanceMethod yX11_field ∈ tb := wi_784
theorem V_X11_field : Cond.selects yX11_field.cls yX11_field yX11_field ∈ tb := wi_785
theorem I_X11_bits : Cond.instanceMethod yX11_bits ∈ tb := wi_788
theorem V_X11_bits : Cond.selects yX11_bits.cls yX11_bits yX11_bits ∈ tb := wi_789
theorem S_X11_parity : Cond.static yX11_parity ∈ tb := wi_800
theorem I_X11_type : Cond.instanceMethod yX11_type ∈ tb := wi_797
theorem V_X11_type : Cond.selects yX11_type.cls yX11_type yX11_type ∈ tb := wi_22
theorem I_X11_octet : Cond.instanceMethod yX11_octet ∈ tb := wi_792
theorem V_X11_octet : Cond.selects yX11_octet.cls yX11_octet yX11_octet ∈ tb := wi_793
theorem S_X11_read : Cond.static yX11_read ∈ tb := wi_807
theorem S_X11_checked : Cond.static yX11_checked ∈ tb := wi_810
theorem I_X11_check : Cond.instanceMethod yX11_check ∈ tb := wi_803
theorem V_X11_check : Cond.selects yX11_check.cls yX11_check yX11_check ∈ tb := wi_804
theorem I_X11_understand : Cond.instanceMethod yX11_understand ∈ tb := wi_823
theorem V_X11_understand : Cond.selects yX11_understand.cls yX11_understand yX11_understand ∈ tb := wi_24
theorem I_X11_say : Cond.instanceMethod yX11_say ∈ tb := wi_835
theorem V_X11_say : Cond.selects yX11_say.cls yX11_say yX11_say ∈ tb := wi_27
theorem I_X11_sayChecked : Cond.instanceMethod yX11_sayChecked ∈ tb := wi_851
theorem V_X11_sayChecked : Cond.selects yX11_sayChecked.cls yX11_sayChecked yX11_sayChecked ∈ tb := wi_31
theorem I_X11_shows : Cond.instanceMethod yX11_shows ∈ tb := wi_839
theorem V_X11_shows : Cond.selects yX11_shows.cls yX11_shows yX11_shows ∈ tb := wi_28
theorem I_X11_sayRest : Cond.instanceMethod yX11_sayRest ∈ tb := wi_843
theorem V_X11_sayRest : Cond.selects yX11_sayRest.cls yX11_sayRest yX11_sayRest ∈ tb := wi_29
theorem I_X11_back : Cond.instanceMethod yX11_back ∈ tb := wi_855
theorem V_X11_back : Cond.selects yX11_back.cls yX11_back yX11_back ∈ tb := wi_32
theorem I_X11_begin : Cond.instanceMethod yX11_begin ∈ tb := wi_831
theorem V_X11_begin : Cond.selects yX11_begin.cls yX11_begin yX11_begin ∈ tb := wi_26
theorem I_X11_hear : Cond.instanceMethod yX11_hear ∈ tb := wi_827
theorem V_X11_hear : Cond.selects yX11_hear.cls yX11_hear yX11_hear ∈ tb := wi_25
theorem I_X11_send : Cond.instanceMethod yX11_send ∈ tb := wi_819
theorem V_X11_send : Cond.selects yX11_send.cls yX11_send yX11_send ∈ tb := wi_23
theorem I_X11_go : Cond.instanceMethod yX11_go ∈ tb := wi_814
theorem V_X11_go : Cond.selects yX11_go.cls yX11_go yX11_go ∈ tb := wi_815
theorem I_X11_answer : Cond.instanceMethod yX11_answer ∈ tb := wi_858
theorem V_X11_answer : Cond.selects yX11_answer.cls yX11_answer yX11_answer ∈ tb := wi_859
theorem I_X11_state : Cond.instanceMethod yX11_state ∈ tb := wi_862
theorem V_X11_state : Cond.selects yX11_state.cls yX11_state yX11_state ∈ tb := wi_863
theorem I_X11_put : Cond.instanceMethod yX11_put ∈ tb := wi_883
theorem V_X11_put : Cond.selects yX11_put.cls yX11_put yX11_put ∈ tb := wi_36
theorem I_X11_putChecked : Cond.instanceMethod yX11_putChecked ∈ tb := wi_895
theorem V_X11_putChecked : Cond.selects yX11_putChecked.cls yX11_putChecked yX11_putChecked ∈ tb := wi_39
theorem I_X11_sendShort : Cond.instanceMethod yX11_sendShort ∈ tb := wi_871
theorem V_X11_sendShort : Cond.selects yX11_sendShort.cls yX11_sendShort yX11_sendShort ∈ tb := wi_33
theorem I_X11_knownByte : Cond.instanceMethod yX11_knownByte ∈ tb := wi_887
theorem V_X11_knownByte : Cond.selects yX11_knownByte.cls yX11_knownByte yX11_knownByte ∈ tb := wi_37
theorem I_X11_sendSearch : Cond.instanceMethod yX11_sendSearch ∈ tb := wi_879
theorem V_X11_sendSearch : Cond.selects yX11_sendSearch.cls yX11_sendSearch yX11_sendSearch ∈ tb := wi_35
theorem I_X11_knows : Cond.instanceMethod yX11_knows ∈ tb := wi_875
theorem V_X11_knows : Cond.selects yX11_knows.cls yX11_knows yX11_knows ∈ tb := wi_34
theorem I_X11_chooses : Cond.instanceMethod yX11_chooses ∈ tb := wi_891
theorem V_X11_chooses : Cond.selects yX11_chooses.cls yX11_chooses yX11_chooses ∈ tb := wi_38
theorem I_X11_round : Cond.instanceMethod yX11_round ∈ tb := wi_866
theorem V_X11_round : Cond.selects yX11_round.cls yX11_round yX11_round ∈ tb := wi_867
theorem I_X11_found : Cond.instanceMethod yX11_found ∈ tb := wi_898
theorem V_X11_found : Cond.selects yX11_found.cls yX11_found yX11_found ∈ tb := wi_899
theorem I_X11_frames : Cond.instanceMethod yX11_frames ∈ tb := wi_902
theorem V_X11_frames : Cond.selects yX11_frames.cls yX11_frames yX11_frames ∈ tb := wi_903
theorem I_Jx29ce0_ordinal_8abf5 : Cond.instanceMethod yJx29ce0_ordinal_8abf5 ∈ tb := wi_563
theorem S_J6_bitCount_0f7a4 : Cond.static yJ6_bitCount_0f7a4 ∈ tb := wi_432
theorem S_J13_bitCount_95d88 : Cond.static yJ13_bitCount_95d88 ∈ tb := wi_413
theorem S_J9_max_7cf53 : Cond.static yJ9_max_7cf53 ∈ tb := wi_325
theorem S_J9_min_7cf53 : Cond.static yJ9_min_7cf53 ∈ tb := wi_356
theorem I_Jxa1e45_init_da8c8 : Cond.instanceMethod yJxa1e45_init_da8c8 ∈ tb := wi_121
theorem I_Jxc12de_init_da8c8 : Cond.instanceMethod yJxc12de_init_da8c8 ∈ tb := wi_118
theorem I_Jx4a65c_init_da8c8 : Cond.instanceMethod yJx4a65c_init_da8c8 ∈ tb := wi_115
theorem I_Jx4a65c_grow_92f84 : Cond.instanceMethod yJx4a65c_grow_92f84 ∈ tb := wi_319
theorem V_Jx4a65c_grow_92f84 : Cond.selects yJx4a65c_grow_92f84.cls yJx4a65c_grow_92f84 yJx4a65c_grow_92f84 ∈ tb := wi_2
theorem I_Jx4a65c_grow_d5877 : Cond.instanceMethod yJx4a65c_grow_d5877 ∈ tb := wi_315
theorem V_Jx4a65c_grow_d5877 : Cond.selects yJx4a65c_grow_d5877.cls yJx4a65c_grow_d5877 yJx4a65c_grow_d5877 ∈ tb := wi_1
theorem I_Jx4a65c_size_8abf5 : Cond.instanceMethod yJx4a65c_size_8abf5 ∈ tb := wi_271
theorem V_Jx4a65c_size_8abf5 : Cond.selects yJx4a65c_size_8abf5.cls yJx4a65c_size_8abf5 yJx4a65c_size_8abf5 ∈ tb := wi_272
theorem I_Jx4a65c_elementData_915e3 : Cond.instanceMethod yJx4a65c_elementData_915e3 ∈ tb := wi_285
theorem V_Jx4a65c_elementData_915e3 : Cond.selects yJx4a65c_elementData_915e3.cls yJx4a65c_elementData_915e3 yJx4a65c_elementData_915e3 ∈ tb := wi_286
theorem I_Jx4a65c_get_915e3 : Cond.instanceMethod yJx4a65c_get_915e3 ∈ tb := wi_275
theorem V_Jx4a65c_get_915e3 : Cond.selects yJx4a65c_get_915e3.cls yJx4a65c_get_915e3 yJx4a65c_get_915e3 ∈ tb := wi_276
theorem I_Jx4a65c_add_72be8 : Cond.instanceMethod yJx4a65c_add_72be8 ∈ tb := wi_311
theorem V_Jx4a65c_add_72be8 : Cond.selects yJx4a65c_add_72be8.cls yJx4a65c_add_72be8 yJx4a65c_add_72be8 ∈ tb := wi_0
theorem I_Jx4a65c_add_9ea2d : Cond.instanceMethod yJx4a65c_add_9ea2d ∈ tb := wi_306
theorem V_Jx4a65c_add_9ea2d : Cond.selects yJx4a65c_add_9ea2d.cls yJx4a65c_add_9ea2d yJx4a65c_add_9ea2d ∈ tb := wi_307
theorem S_J7_copyOf_1904c : Cond.static yJ7_copyOf_1904c ∈ tb := wi_332
theorem S_J7_copyOf_6403c : Cond.static yJ7_copyOf_6403c ∈ tb := wi_350
theorem S_J15_checkIndex_7cf53 : Cond.static yJ15_checkIndex_7cf53 ∈ tb := wi_279
theorem S_J8_newLength_cabcc : Cond.static yJ8_newLength_cabcc ∈ tb := wi_322
theorem S_J8_hugeLength_7cf53 : Cond.static yJ8_hugeLength_7cf53 ∈ tb := wi_329
theorem S_J3_checkIndex_8e157 : Cond.static yJ3_checkIndex_8e157 ∈ tb := wi_282
theorem NL_L_7 : Cond.classLink RL 7 RX10 ∈ tb := wi_65
theorem NL_X10_7 : Cond.classLink RX10 7 RX8 ∈ tb := wi_73
theorem NL_X10_18 : Cond.classLink RX10 18 RX2 ∈ tb := wi_89
theorem NL_X10_25 : Cond.classLink RX10 25 RX1 ∈ tb := wi_106
theorem NL_X1_7 : Cond.classLink RX1 7 RJx4a65c ∈ tb := wi_112
theorem NL_X1_16 : Cond.classLink RX1 16 RX4 ∈ tb := wi_138
theorem NL_X10_32 : Cond.classLink RX10 32 RX6 ∈ tb := wi_181
theorem NL_X6_9 : Cond.classLink RX6 9 RX8 ∈ tb := wi_187
theorem NL_X6_20 : Cond.classLink RX6 20 RX2 ∈ tb := wi_189
theorem NL_X10_39 : Cond.classLink RX10 39 RX9 ∈ tb := wi_231
theorem NL_X1_35 : Cond.classLink RX1 35 RX9 ∈ tb := wi_288
theorem NL_L_10 : Cond.classLink RL 10 RX11 ∈ tb := wi_668
theorem NI_X1 : Cond.instantiable RX1 4 ∈ tb ∧ Cond.initialized RX1 ∈ tb := ⟨wi_107, wi_44⟩
theorem NI_X2 : Cond.instantiable RX2 3 ∈ tb ∧ Cond.initialized RX2 ∈ tb := ⟨wi_90, wi_43⟩
theorem NI_X4 : Cond.instantiable RX4 5 ∈ tb ∧ Cond.initialized RX4 ∈ tb := ⟨wi_139, wi_48⟩
theorem NI_X6 : Cond.instantiable RX6 7 ∈ tb ∧ Cond.initialized RX6 ∈ tb := ⟨wi_182, wi_51⟩
theorem NI_X8 : Cond.instantiable RX8 2 ∈ tb ∧ Cond.initialized RX8 ∈ tb := ⟨wi_74, wi_42⟩
theorem NI_X9 : Cond.instantiable RX9 5 ∈ tb ∧ Cond.initialized RX9 ∈ tb := ⟨wi_232, wi_53⟩
theorem NI_X10 : Cond.instantiable RX10 4 ∈ tb ∧ Cond.initialized RX10 ∈ tb := ⟨wi_66, wi_41⟩
theorem NI_X11 : Cond.instantiable RX11 29 ∈ tb ∧ Cond.initialized RX11 ∈ tb := ⟨wi_669, wi_52⟩
theorem NI_Jx4a65c : Cond.instantiable RJx4a65c 3 ∈ tb ∧ Cond.initialized RJx4a65c ∈ tb := ⟨wi_113, wi_47⟩
end
