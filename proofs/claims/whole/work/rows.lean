section
-- ===== PART A: goes FIRST, ahead of the names: the tables' words, and 'selects' of the private methods out of them =====
/-- a private method of a class that the tables say can be made, by its rows of tables_1 -/
def lw_okq (q : MethodName × Nat) : Prop := (q.1.cls ≠ "java/lang/invoke/MethodHandle" ∧ q.1.cls ≠ "java/lang/invoke/VarHandle") ∧ Cond.instantiable q.1.cls q.2 ∈ tables_1 ∧ Cond.privateMethod q.1 ∈ tables_1 ∧ Cond.instanceMethod q.1 ∈ tables_1
theorem lw_p0 : lw_okq (⟨"java/util/ArrayList", "add", "(Ljava/lang/Object;[Ljava/lang/Object;I)V"⟩, 3) := ⟨⟨by decide +kernel, by decide +kernel⟩, List.mem_of_getElem? (i := 73) (by decide +kernel), List.mem_of_getElem? (i := 270) (by decide +kernel), List.mem_of_getElem? (i := 271) (by decide +kernel)⟩
theorem lw_p1 : lw_okq (⟨"java/util/ArrayList", "grow", "()[Ljava/lang/Object;"⟩, 3) := ⟨⟨by decide +kernel, by decide +kernel⟩, List.mem_of_getElem? (i := 73) (by decide +kernel), List.mem_of_getElem? (i := 274) (by decide +kernel), List.mem_of_getElem? (i := 275) (by decide +kernel)⟩
theorem lw_p2 : lw_okq (⟨"java/util/ArrayList", "grow", "(I)[Ljava/lang/Object;"⟩, 3) := ⟨⟨by decide +kernel, by decide +kernel⟩, List.mem_of_getElem? (i := 73) (by decide +kernel), List.mem_of_getElem? (i := 278) (by decide +kernel), List.mem_of_getElem? (i := 279) (by decide +kernel)⟩
theorem lw_p3 : lw_okq (⟨"TagField$Frame", "readTold", "(LTagField$Row;II)V"⟩, 5) := ⟨⟨by decide +kernel, by decide +kernel⟩, List.mem_of_getElem? (i := 99) (by decide +kernel), List.mem_of_getElem? (i := 444) (by decide +kernel), List.mem_of_getElem? (i := 445) (by decide +kernel)⟩
theorem lw_p4 : lw_okq (⟨"TagField$Frame", "kindOfCommand", "(II)LTagField$Kind;"⟩, 5) := ⟨⟨by decide +kernel, by decide +kernel⟩, List.mem_of_getElem? (i := 99) (by decide +kernel), List.mem_of_getElem? (i := 451) (by decide +kernel), List.mem_of_getElem? (i := 452) (by decide +kernel)⟩
theorem lw_p5 : lw_okq (⟨"TagField$Tag", "becomeReady", "(I)LTagField$Reply;"⟩, 5) := ⟨⟨by decide +kernel, by decide +kernel⟩, List.mem_of_getElem? (i := 192) (by decide +kernel), List.mem_of_getElem? (i := 467) (by decide +kernel), List.mem_of_getElem? (i := 468) (by decide +kernel)⟩
theorem lw_p6 : lw_okq (⟨"TagField$Tag", "become", "(ILTagField$Reply;)LTagField$Reply;"⟩, 5) := ⟨⟨by decide +kernel, by decide +kernel⟩, List.mem_of_getElem? (i := 192) (by decide +kernel), List.mem_of_getElem? (i := 473) (by decide +kernel), List.mem_of_getElem? (i := 474) (by decide +kernel)⟩
theorem lw_p7 : lw_okq (⟨"TagField$Tag", "hearReady", "(LTagField$Frame;)LTagField$Reply;"⟩, 5) := ⟨⟨by decide +kernel, by decide +kernel⟩, List.mem_of_getElem? (i := 192) (by decide +kernel), List.mem_of_getElem? (i := 479) (by decide +kernel), List.mem_of_getElem? (i := 480) (by decide +kernel)⟩
theorem lw_p8 : lw_okq (⟨"TagField$Tag", "showsWhatIsTold", "(LTagField$Frame;)Z"⟩, 5) := ⟨⟨by decide +kernel, by decide +kernel⟩, List.mem_of_getElem? (i := 192) (by decide +kernel), List.mem_of_getElem? (i := 484) (by decide +kernel), List.mem_of_getElem? (i := 485) (by decide +kernel)⟩
theorem lw_p9 : lw_okq (⟨"TagField$Tag", "becomeChosen", "()LTagField$Reply;"⟩, 5) := ⟨⟨by decide +kernel, by decide +kernel⟩, List.mem_of_getElem? (i := 192) (by decide +kernel), List.mem_of_getElem? (i := 491) (by decide +kernel), List.mem_of_getElem? (i := 492) (by decide +kernel)⟩
theorem lw_p10 : lw_okq (⟨"TagField$Tag", "goBack", "()LTagField$Reply;"⟩, 5) := ⟨⟨by decide +kernel, by decide +kernel⟩, List.mem_of_getElem? (i := 192) (by decide +kernel), List.mem_of_getElem? (i := 499) (by decide +kernel), List.mem_of_getElem? (i := 500) (by decide +kernel)⟩
theorem lw_p11 : lw_okq (⟨"TagField$Tag", "hearActive", "(LTagField$Frame;)LTagField$Reply;"⟩, 5) := ⟨⟨by decide +kernel, by decide +kernel⟩, List.mem_of_getElem? (i := 192) (by decide +kernel), List.mem_of_getElem? (i := 503) (by decide +kernel), List.mem_of_getElem? (i := 504) (by decide +kernel)⟩
theorem lw_p12 : lw_okq (⟨"TagField$Reader", "searchLevel", "(ILTagField$Air;)Z"⟩, 7) := ⟨⟨by decide +kernel, by decide +kernel⟩, List.mem_of_getElem? (i := 142) (by decide +kernel), List.mem_of_getElem? (i := 580) (by decide +kernel), List.mem_of_getElem? (i := 581) (by decide +kernel)⟩
theorem lw_p13 : lw_okq (⟨"TagField$Reader", "layOutSearch", "(I)V"⟩, 7) := ⟨⟨by decide +kernel, by decide +kernel⟩, List.mem_of_getElem? (i := 142) (by decide +kernel), List.mem_of_getElem? (i := 584) (by decide +kernel), List.mem_of_getElem? (i := 585) (by decide +kernel)⟩
theorem lw_p14 : lw_okq (⟨"TagField$Reader", "knownByte", "(I)I"⟩, 7) := ⟨⟨by decide +kernel, by decide +kernel⟩, List.mem_of_getElem? (i := 142) (by decide +kernel), List.mem_of_getElem? (i := 590) (by decide +kernel), List.mem_of_getElem? (i := 591) (by decide +kernel)⟩
theorem lw_p15 : lw_okq (⟨"TagField$Reader", "learn", "()V"⟩, 7) := ⟨⟨by decide +kernel, by decide +kernel⟩, List.mem_of_getElem? (i := 142) (by decide +kernel), List.mem_of_getElem? (i := 594) (by decide +kernel), List.mem_of_getElem? (i := 595) (by decide +kernel)⟩
def lw_privs_1 : List (MethodName × Nat) := [(⟨"java/util/ArrayList", "add", "(Ljava/lang/Object;[Ljava/lang/Object;I)V"⟩, 3), (⟨"java/util/ArrayList", "grow", "()[Ljava/lang/Object;"⟩, 3), (⟨"java/util/ArrayList", "grow", "(I)[Ljava/lang/Object;"⟩, 3), (⟨"TagField$Frame", "readTold", "(LTagField$Row;II)V"⟩, 5), (⟨"TagField$Frame", "kindOfCommand", "(II)LTagField$Kind;"⟩, 5), (⟨"TagField$Tag", "becomeReady", "(I)LTagField$Reply;"⟩, 5), (⟨"TagField$Tag", "become", "(ILTagField$Reply;)LTagField$Reply;"⟩, 5), (⟨"TagField$Tag", "hearReady", "(LTagField$Frame;)LTagField$Reply;"⟩, 5), (⟨"TagField$Tag", "showsWhatIsTold", "(LTagField$Frame;)Z"⟩, 5), (⟨"TagField$Tag", "becomeChosen", "()LTagField$Reply;"⟩, 5), (⟨"TagField$Tag", "goBack", "()LTagField$Reply;"⟩, 5), (⟨"TagField$Tag", "hearActive", "(LTagField$Frame;)LTagField$Reply;"⟩, 5), (⟨"TagField$Reader", "searchLevel", "(ILTagField$Air;)Z"⟩, 7), (⟨"TagField$Reader", "layOutSearch", "(I)V"⟩, 7), (⟨"TagField$Reader", "knownByte", "(I)I"⟩, 7), (⟨"TagField$Reader", "learn", "()V"⟩, 7)]
theorem lw_r1 : ∀ q ∈ lw_privs_1, lw_okq q := List.forall_mem_cons.mpr ⟨lw_p0, List.forall_mem_cons.mpr ⟨lw_p1, List.forall_mem_cons.mpr ⟨lw_p2, List.forall_mem_cons.mpr ⟨lw_p3, List.forall_mem_cons.mpr ⟨lw_p4, List.forall_mem_cons.mpr ⟨lw_p5, List.forall_mem_cons.mpr ⟨lw_p6, List.forall_mem_cons.mpr ⟨lw_p7, List.forall_mem_cons.mpr ⟨lw_p8, List.forall_mem_cons.mpr ⟨lw_p9, List.forall_mem_cons.mpr ⟨lw_p10, List.forall_mem_cons.mpr ⟨lw_p11, List.forall_mem_cons.mpr ⟨lw_p12, List.forall_mem_cons.mpr ⟨lw_p13, List.forall_mem_cons.mpr ⟨lw_p14, List.forall_mem_cons.mpr ⟨lw_p15, fun _ h => absurd h List.not_mem_nil⟩⟩⟩⟩⟩⟩⟩⟩⟩⟩⟩⟩⟩⟩⟩⟩
theorem lw_p16 : lw_okq (⟨"TagField$Reader", "choose", "(ILTagField$Air;)Z"⟩, 7) := ⟨⟨by decide +kernel, by decide +kernel⟩, List.mem_of_getElem? (i := 142) (by decide +kernel), List.mem_of_getElem? (i := 599) (by decide +kernel), List.mem_of_getElem? (i := 600) (by decide +kernel)⟩
theorem lw_p17 : lw_okq (⟨"TagField$Reader", "keepBytes", "(I)V"⟩, 7) := ⟨⟨by decide +kernel, by decide +kernel⟩, List.mem_of_getElem? (i := 142) (by decide +kernel), List.mem_of_getElem? (i := 609) (by decide +kernel), List.mem_of_getElem? (i := 610) (by decide +kernel)⟩
theorem lw_p18 : lw_okq (⟨"TagField$Reader", "halt", "(LTagField$Air;)V"⟩, 7) := ⟨⟨by decide +kernel, by decide +kernel⟩, List.mem_of_getElem? (i := 142) (by decide +kernel), List.mem_of_getElem? (i := 613) (by decide +kernel), List.mem_of_getElem? (i := 614) (by decide +kernel)⟩
theorem lw_p19 : lw_okq (⟨"TagFieldModel", "byteFrom", "(IIII)I"⟩, 29) := ⟨⟨by decide +kernel, by decide +kernel⟩, List.mem_of_getElem? (i := 629) (by decide +kernel), List.mem_of_getElem? (i := 728) (by decide +kernel), List.mem_of_getElem? (i := 729) (by decide +kernel)⟩
theorem lw_p20 : lw_okq (⟨"TagFieldModel", "show", "(IIIIII)V"⟩, 29) := ⟨⟨by decide +kernel, by decide +kernel⟩, List.mem_of_getElem? (i := 629) (by decide +kernel), List.mem_of_getElem? (i := 732) (by decide +kernel), List.mem_of_getElem? (i := 733) (by decide +kernel)⟩
theorem lw_p21 : lw_okq (⟨"TagFieldModel", "isTag", "(I)Z"⟩, 29) := ⟨⟨by decide +kernel, by decide +kernel⟩, List.mem_of_getElem? (i := 629) (by decide +kernel), List.mem_of_getElem? (i := 740) (by decide +kernel), List.mem_of_getElem? (i := 741) (by decide +kernel)⟩
theorem lw_p22 : lw_okq (⟨"TagFieldModel", "type", "(I)I"⟩, 29) := ⟨⟨by decide +kernel, by decide +kernel⟩, List.mem_of_getElem? (i := 629) (by decide +kernel), List.mem_of_getElem? (i := 756) (by decide +kernel), List.mem_of_getElem? (i := 757) (by decide +kernel)⟩
theorem lw_p23 : lw_okq (⟨"TagFieldModel", "send", "()V"⟩, 29) := ⟨⟨by decide +kernel, by decide +kernel⟩, List.mem_of_getElem? (i := 629) (by decide +kernel), List.mem_of_getElem? (i := 778) (by decide +kernel), List.mem_of_getElem? (i := 779) (by decide +kernel)⟩
theorem lw_p24 : lw_okq (⟨"TagFieldModel", "understand", "()V"⟩, 29) := ⟨⟨by decide +kernel, by decide +kernel⟩, List.mem_of_getElem? (i := 629) (by decide +kernel), List.mem_of_getElem? (i := 782) (by decide +kernel), List.mem_of_getElem? (i := 783) (by decide +kernel)⟩
theorem lw_p25 : lw_okq (⟨"TagFieldModel", "hear", "(I)V"⟩, 29) := ⟨⟨by decide +kernel, by decide +kernel⟩, List.mem_of_getElem? (i := 629) (by decide +kernel), List.mem_of_getElem? (i := 786) (by decide +kernel), List.mem_of_getElem? (i := 787) (by decide +kernel)⟩
theorem lw_p26 : lw_okq (⟨"TagFieldModel", "begin", "(II)V"⟩, 29) := ⟨⟨by decide +kernel, by decide +kernel⟩, List.mem_of_getElem? (i := 629) (by decide +kernel), List.mem_of_getElem? (i := 790) (by decide +kernel), List.mem_of_getElem? (i := 791) (by decide +kernel)⟩
theorem lw_p27 : lw_okq (⟨"TagFieldModel", "say", "(I)V"⟩, 29) := ⟨⟨by decide +kernel, by decide +kernel⟩, List.mem_of_getElem? (i := 629) (by decide +kernel), List.mem_of_getElem? (i := 794) (by decide +kernel), List.mem_of_getElem? (i := 795) (by decide +kernel)⟩
theorem lw_p28 : lw_okq (⟨"TagFieldModel", "shows", "(I)Z"⟩, 29) := ⟨⟨by decide +kernel, by decide +kernel⟩, List.mem_of_getElem? (i := 629) (by decide +kernel), List.mem_of_getElem? (i := 798) (by decide +kernel), List.mem_of_getElem? (i := 799) (by decide +kernel)⟩
theorem lw_p29 : lw_okq (⟨"TagFieldModel", "sayRest", "(I)V"⟩, 29) := ⟨⟨by decide +kernel, by decide +kernel⟩, List.mem_of_getElem? (i := 629) (by decide +kernel), List.mem_of_getElem? (i := 802) (by decide +kernel), List.mem_of_getElem? (i := 803) (by decide +kernel)⟩
theorem lw_p30 : lw_okq (⟨"TagFieldModel", "levels", "(I)I"⟩, 29) := ⟨⟨by decide +kernel, by decide +kernel⟩, List.mem_of_getElem? (i := 629) (by decide +kernel), List.mem_of_getElem? (i := 806) (by decide +kernel), List.mem_of_getElem? (i := 807) (by decide +kernel)⟩
theorem lw_p31 : lw_okq (⟨"TagFieldModel", "sayChecked", "(I)V"⟩, 29) := ⟨⟨by decide +kernel, by decide +kernel⟩, List.mem_of_getElem? (i := 629) (by decide +kernel), List.mem_of_getElem? (i := 810) (by decide +kernel), List.mem_of_getElem? (i := 811) (by decide +kernel)⟩
def lw_privs_2 : List (MethodName × Nat) := [(⟨"TagField$Reader", "choose", "(ILTagField$Air;)Z"⟩, 7), (⟨"TagField$Reader", "keepBytes", "(I)V"⟩, 7), (⟨"TagField$Reader", "halt", "(LTagField$Air;)V"⟩, 7), (⟨"TagFieldModel", "byteFrom", "(IIII)I"⟩, 29), (⟨"TagFieldModel", "show", "(IIIIII)V"⟩, 29), (⟨"TagFieldModel", "isTag", "(I)Z"⟩, 29), (⟨"TagFieldModel", "type", "(I)I"⟩, 29), (⟨"TagFieldModel", "send", "()V"⟩, 29), (⟨"TagFieldModel", "understand", "()V"⟩, 29), (⟨"TagFieldModel", "hear", "(I)V"⟩, 29), (⟨"TagFieldModel", "begin", "(II)V"⟩, 29), (⟨"TagFieldModel", "say", "(I)V"⟩, 29), (⟨"TagFieldModel", "shows", "(I)Z"⟩, 29), (⟨"TagFieldModel", "sayRest", "(I)V"⟩, 29), (⟨"TagFieldModel", "levels", "(I)I"⟩, 29), (⟨"TagFieldModel", "sayChecked", "(I)V"⟩, 29)]
theorem lw_r2 : ∀ q ∈ lw_privs_2, lw_okq q := List.forall_mem_cons.mpr ⟨lw_p16, List.forall_mem_cons.mpr ⟨lw_p17, List.forall_mem_cons.mpr ⟨lw_p18, List.forall_mem_cons.mpr ⟨lw_p19, List.forall_mem_cons.mpr ⟨lw_p20, List.forall_mem_cons.mpr ⟨lw_p21, List.forall_mem_cons.mpr ⟨lw_p22, List.forall_mem_cons.mpr ⟨lw_p23, List.forall_mem_cons.mpr ⟨lw_p24, List.forall_mem_cons.mpr ⟨lw_p25, List.forall_mem_cons.mpr ⟨lw_p26, List.forall_mem_cons.mpr ⟨lw_p27, List.forall_mem_cons.mpr ⟨lw_p28, List.forall_mem_cons.mpr ⟨lw_p29, List.forall_mem_cons.mpr ⟨lw_p30, List.forall_mem_cons.mpr ⟨lw_p31, fun _ h => absurd h List.not_mem_nil⟩⟩⟩⟩⟩⟩⟩⟩⟩⟩⟩⟩⟩⟩⟩⟩
theorem lw_p32 : lw_okq (⟨"TagFieldModel", "back", "(I)V"⟩, 29) := ⟨⟨by decide +kernel, by decide +kernel⟩, List.mem_of_getElem? (i := 629) (by decide +kernel), List.mem_of_getElem? (i := 814) (by decide +kernel), List.mem_of_getElem? (i := 815) (by decide +kernel)⟩
theorem lw_p33 : lw_okq (⟨"TagFieldModel", "sendShort", "(I)V"⟩, 29) := ⟨⟨by decide +kernel, by decide +kernel⟩, List.mem_of_getElem? (i := 629) (by decide +kernel), List.mem_of_getElem? (i := 830) (by decide +kernel), List.mem_of_getElem? (i := 831) (by decide +kernel)⟩
theorem lw_p34 : lw_okq (⟨"TagFieldModel", "knows", "(I)Z"⟩, 29) := ⟨⟨by decide +kernel, by decide +kernel⟩, List.mem_of_getElem? (i := 629) (by decide +kernel), List.mem_of_getElem? (i := 834) (by decide +kernel), List.mem_of_getElem? (i := 835) (by decide +kernel)⟩
theorem lw_p35 : lw_okq (⟨"TagFieldModel", "sendSearch", "(I)V"⟩, 29) := ⟨⟨by decide +kernel, by decide +kernel⟩, List.mem_of_getElem? (i := 629) (by decide +kernel), List.mem_of_getElem? (i := 838) (by decide +kernel), List.mem_of_getElem? (i := 839) (by decide +kernel)⟩
theorem lw_p36 : lw_okq (⟨"TagFieldModel", "put", "(I)V"⟩, 29) := ⟨⟨by decide +kernel, by decide +kernel⟩, List.mem_of_getElem? (i := 629) (by decide +kernel), List.mem_of_getElem? (i := 842) (by decide +kernel), List.mem_of_getElem? (i := 843) (by decide +kernel)⟩
theorem lw_p37 : lw_okq (⟨"TagFieldModel", "knownByte", "(I)I"⟩, 29) := ⟨⟨by decide +kernel, by decide +kernel⟩, List.mem_of_getElem? (i := 629) (by decide +kernel), List.mem_of_getElem? (i := 846) (by decide +kernel), List.mem_of_getElem? (i := 847) (by decide +kernel)⟩
theorem lw_p38 : lw_okq (⟨"TagFieldModel", "chooses", "(I)I"⟩, 29) := ⟨⟨by decide +kernel, by decide +kernel⟩, List.mem_of_getElem? (i := 629) (by decide +kernel), List.mem_of_getElem? (i := 850) (by decide +kernel), List.mem_of_getElem? (i := 851) (by decide +kernel)⟩
theorem lw_p39 : lw_okq (⟨"TagFieldModel", "putChecked", "()V"⟩, 29) := ⟨⟨by decide +kernel, by decide +kernel⟩, List.mem_of_getElem? (i := 629) (by decide +kernel), List.mem_of_getElem? (i := 854) (by decide +kernel), List.mem_of_getElem? (i := 855) (by decide +kernel)⟩
def lw_privs_3 : List (MethodName × Nat) := [(⟨"TagFieldModel", "back", "(I)V"⟩, 29), (⟨"TagFieldModel", "sendShort", "(I)V"⟩, 29), (⟨"TagFieldModel", "knows", "(I)Z"⟩, 29), (⟨"TagFieldModel", "sendSearch", "(I)V"⟩, 29), (⟨"TagFieldModel", "put", "(I)V"⟩, 29), (⟨"TagFieldModel", "knownByte", "(I)I"⟩, 29), (⟨"TagFieldModel", "chooses", "(I)I"⟩, 29), (⟨"TagFieldModel", "putChecked", "()V"⟩, 29)]
theorem lw_r3 : ∀ q ∈ lw_privs_3, lw_okq q := List.forall_mem_cons.mpr ⟨lw_p32, List.forall_mem_cons.mpr ⟨lw_p33, List.forall_mem_cons.mpr ⟨lw_p34, List.forall_mem_cons.mpr ⟨lw_p35, List.forall_mem_cons.mpr ⟨lw_p36, List.forall_mem_cons.mpr ⟨lw_p37, List.forall_mem_cons.mpr ⟨lw_p38, List.forall_mem_cons.mpr ⟨lw_p39, fun _ h => absurd h List.not_mem_nil⟩⟩⟩⟩⟩⟩⟩⟩
def lw_privs : List (MethodName × Nat) := lw_privs_1 ++ (lw_privs_2 ++ (lw_privs_3))
def lw_tbl : List Cond := k2_sels lw_privs ++ tables_1
theorem lw_privs_ok : ∀ q ∈ lw_privs, lw_okq q := by
  show ∀ q ∈ lw_privs_1 ++ (lw_privs_2 ++ (lw_privs_3)), lw_okq q
  exact List.forall_mem_append.mpr ⟨lw_r1, List.forall_mem_append.mpr ⟨lw_r2, lw_r3⟩⟩
end
section
def RX0 : String := "TagField$1"
def RX1 : String := "TagField$Air"
def TX1 : u_T := fun k => match k with
  | 0 => ("TagField$Air", "tags", "Ljava/util/ArrayList;", true)
  | 1 => ("TagField$Air", "frame", "LTagField$Frame;", true)
  | 2 => ("TagField$Air", "on", "Z", false)
  | _ => ("TagField$Air", "sent", "I", false)
def tyX1 : Nat → FieldType := fun k => match k with
  | 0 => .object "java/util/ArrayList"
  | 1 => .object "TagField$Frame"
  | 2 => .boolean
  | _ => .int
theorem nmX1 : ∀ a, a < 4 → ∀ b, b < 4 → a ≠ b → (TX1 a).2.1 ≠ (TX1 b).2.1 := by decide +kernel
theorem tyX1_ok : ∀ k, k < 4 → parseFieldDescriptor (TX1 k).2.2.1 = some (tyX1 k) := by decide +kernel
abbrev cX1_init : ByteArray := prog_3_method_1_code
def yX1_init : MethodName := ⟨RX1, "<init>", "()V"⟩
abbrev cX1_count : ByteArray := prog_3_method_2_code
def yX1_count : MethodName := ⟨RX1, "count", "()I"⟩
abbrev cX1_knows : ByteArray := prog_3_method_3_code
def yX1_knows : MethodName := ⟨RX1, "knows", "(I)Z"⟩
abbrev cX1_knowsNumberOf : ByteArray := prog_3_method_4_code
def yX1_knowsNumberOf : MethodName := ⟨RX1, "knowsNumberOf", "(LTagField$Tag;)Z"⟩
abbrev cX1_bring : ByteArray := prog_3_method_5_code
def yX1_bring : MethodName := ⟨RX1, "bring", "(LTagField$Tag;)I"⟩
abbrev cX1_move : ByteArray := prog_3_method_6_code
def yX1_move : MethodName := ⟨RX1, "move", "(IZ)I"⟩
abbrev cX1_turn : ByteArray := prog_3_method_7_code
def yX1_turn : MethodName := ⟨RX1, "turn", "(Z)I"⟩
abbrev cX1_stateOf : ByteArray := prog_3_method_8_code
def yX1_stateOf : MethodName := ⟨RX1, "stateOf", "(I)I"⟩
abbrev cX1_send : ByteArray := prog_3_method_9_code
def yX1_send : MethodName := ⟨RX1, "send", "(LTagField$Row;LTagField$Answer;)I"⟩
def RX2 : String := "TagField$Answer"
def TX2 : u_T := fun k => match k with
  | 0 => ("TagField$Answer", "ones", "J", false)
  | 1 => ("TagField$Answer", "zeros", "J", false)
  | _ => ("TagField$Answer", "length", "I", false)
def tyX2 : Nat → FieldType := fun k => match k with
  | 0 => .long
  | 1 => .long
  | _ => .int
theorem nmX2 : ∀ a, a < 3 → ∀ b, b < 3 → a ≠ b → (TX2 a).2.1 ≠ (TX2 b).2.1 := by decide +kernel
theorem tyX2_ok : ∀ k, k < 3 → parseFieldDescriptor (TX2 k).2.2.1 = some (tyX2 k) := by decide +kernel
abbrev cX2_init : ByteArray := prog_4_method_1_code
def yX2_init : MethodName := ⟨RX2, "<init>", "()V"⟩
abbrev cX2_clear : ByteArray := prog_4_method_2_code
def yX2_clear : MethodName := ⟨RX2, "clear", "()V"⟩
abbrev cX2_lay : ByteArray := prog_4_method_3_code
def yX2_lay : MethodName := ⟨RX2, "lay", "(JI)V"⟩
abbrev cX2_bitAt : ByteArray := prog_4_method_4_code
def yX2_bitAt : MethodName := ⟨RX2, "bitAt", "(I)I"⟩
abbrev cX2_beginsWith : ByteArray := prog_4_method_5_code
def yX2_beginsWith : MethodName := ⟨RX2, "beginsWith", "(I)Z"⟩
def RX3 : String := "TagField$Code"
abbrev cX3_octetsOf : ByteArray := prog_5_method_2_code
def yX3_octetsOf : MethodName := ⟨RX3, "octetsOf", "(JI)J"⟩
abbrev cX3_checkStep : ByteArray := prog_5_method_3_code
def yX3_checkStep : MethodName := ⟨RX3, "checkStep", "(II)I"⟩
abbrev cX3_checkedOctetsOf : ByteArray := prog_5_method_4_code
def yX3_checkedOctetsOf : MethodName := ⟨RX3, "checkedOctetsOf", "(JI)J"⟩
def RX4 : String := "TagField$Frame"
def TX4 : u_T := fun k => match k with
  | 0 => ("TagField$Frame", "kind", "LTagField$Kind;", false)
  | 1 => ("TagField$Frame", "level", "I", false)
  | 2 => ("TagField$Frame", "second", "I", false)
  | 3 => ("TagField$Frame", "told", "J", false)
  | _ => ("TagField$Frame", "toldCount", "I", false)
def tyX4 : Nat → FieldType := fun k => match k with
  | 0 => .object "TagField$Kind"
  | 1 => .int
  | 2 => .int
  | 3 => .long
  | _ => .int
theorem nmX4 : ∀ a, a < 5 → ∀ b, b < 5 → a ≠ b → (TX4 a).2.1 ≠ (TX4 b).2.1 := by decide +kernel
theorem tyX4_ok : ∀ k, k < 5 → parseFieldDescriptor (TX4 k).2.2.1 = some (tyX4 k) := by decide +kernel
abbrev cX4_init : ByteArray := prog_6_method_1_code
def yX4_init : MethodName := ⟨RX4, "<init>", "()V"⟩
abbrev cX4_read : ByteArray := prog_6_method_2_code
def yX4_read : MethodName := ⟨RX4, "read", "(LTagField$Row;)V"⟩
abbrev cX4_kindOfShort : ByteArray := prog_6_method_3_code
def yX4_kindOfShort : MethodName := ⟨RX4, "kindOfShort", "(I)LTagField$Kind;"⟩
abbrev cX4_kindOfCommand : ByteArray := prog_6_method_4_code
def yX4_kindOfCommand : MethodName := ⟨RX4, "kindOfCommand", "(II)LTagField$Kind;"⟩
abbrev cX4_readTold : ByteArray := prog_6_method_5_code
def yX4_readTold : MethodName := ⟨RX4, "readTold", "(LTagField$Row;II)V"⟩
abbrev cX4_levelOf : ByteArray := prog_6_method_6_code
def yX4_levelOf : MethodName := ⟨RX4, "levelOf", "(I)I"⟩
abbrev cX4_levelByte : ByteArray := prog_6_method_7_code
def yX4_levelByte : MethodName := ⟨RX4, "levelByte", "(I)I"⟩
def RX5 : String := "TagField$Kind"
def RX6 : String := "TagField$Reader"
def TX6 : u_T := fun k => match k with
  | 0 => ("TagField$Reader", "row", "LTagField$Row;", true)
  | 1 => ("TagField$Reader", "heard", "LTagField$Answer;", true)
  | 2 => ("TagField$Reader", "numbers", "[I", true)
  | 3 => ("TagField$Reader", "sizes", "[I", true)
  | 4 => ("TagField$Reader", "count", "I", false)
  | 5 => ("TagField$Reader", "known", "J", false)
  | _ => ("TagField$Reader", "knownCount", "I", false)
def tyX6 : Nat → FieldType := fun k => match k with
  | 0 => .object "TagField$Row"
  | 1 => .object "TagField$Answer"
  | 2 => .array .int
  | 3 => .array .int
  | 4 => .int
  | 5 => .long
  | _ => .int
theorem nmX6 : ∀ a, a < 7 → ∀ b, b < 7 → a ≠ b → (TX6 a).2.1 ≠ (TX6 b).2.1 := by decide +kernel
theorem tyX6_ok : ∀ k, k < 7 → parseFieldDescriptor (TX6 k).2.2.1 = some (tyX6 k) := by decide +kernel
abbrev cX6_init : ByteArray := prog_8_method_1_code
def yX6_init : MethodName := ⟨RX6, "<init>", "()V"⟩
abbrev cX6_forget : ByteArray := prog_8_method_2_code
def yX6_forget : MethodName := ⟨RX6, "forget", "()V"⟩
abbrev cX6_byteFound : ByteArray := prog_8_method_3_code
def yX6_byteFound : MethodName := ⟨RX6, "byteFound", "(II)I"⟩
abbrev cX6_findOne : ByteArray := prog_8_method_4_code
def yX6_findOne : MethodName := ⟨RX6, "findOne", "(LTagField$Air;)Z"⟩
abbrev cX6_searchLevel : ByteArray := prog_8_method_5_code
def yX6_searchLevel : MethodName := ⟨RX6, "searchLevel", "(ILTagField$Air;)Z"⟩
abbrev cX6_layOutSearch : ByteArray := prog_8_method_6_code
def yX6_layOutSearch : MethodName := ⟨RX6, "layOutSearch", "(I)V"⟩
abbrev cX6_learn : ByteArray := prog_8_method_7_code
def yX6_learn : MethodName := ⟨RX6, "learn", "()V"⟩
abbrev cX6_choose : ByteArray := prog_8_method_8_code
def yX6_choose : MethodName := ⟨RX6, "choose", "(ILTagField$Air;)Z"⟩
abbrev cX6_halt : ByteArray := prog_8_method_9_code
def yX6_halt : MethodName := ⟨RX6, "halt", "(LTagField$Air;)V"⟩
abbrev cX6_knownByte : ByteArray := prog_8_method_10_code
def yX6_knownByte : MethodName := ⟨RX6, "knownByte", "(I)I"⟩
abbrev cX6_keepBytes : ByteArray := prog_8_method_11_code
def yX6_keepBytes : MethodName := ⟨RX6, "keepBytes", "(I)V"⟩
def RX7 : String := "TagField$Reply"
def RX8 : String := "TagField$Row"
def TX8 : u_T := fun k => match k with
  | 0 => ("TagField$Row", "bits", "[I", true)
  | _ => ("TagField$Row", "size", "I", false)
def tyX8 : Nat → FieldType := fun k => match k with
  | 0 => .array .int
  | _ => .int
theorem nmX8 : ∀ a, a < 2 → ∀ b, b < 2 → a ≠ b → (TX8 a).2.1 ≠ (TX8 b).2.1 := by decide +kernel
theorem tyX8_ok : ∀ k, k < 2 → parseFieldDescriptor (TX8 k).2.2.1 = some (tyX8 k) := by decide +kernel
abbrev cX8_init : ByteArray := prog_10_method_1_code
def yX8_init : MethodName := ⟨RX8, "<init>", "(I)V"⟩
abbrev cX8_clear : ByteArray := prog_10_method_2_code
def yX8_clear : MethodName := ⟨RX8, "clear", "()V"⟩
abbrev cX8_hasRoomFor : ByteArray := prog_10_method_3_code
def yX8_hasRoomFor : MethodName := ⟨RX8, "hasRoomFor", "(I)Z"⟩
abbrev cX8_addBits : ByteArray := prog_10_method_4_code
def yX8_addBits : MethodName := ⟨RX8, "addBits", "(II)V"⟩
abbrev cX8_addOctet : ByteArray := prog_10_method_5_code
def yX8_addOctet : MethodName := ⟨RX8, "addOctet", "(I)V"⟩
abbrev cX8_addCheck : ByteArray := prog_10_method_6_code
def yX8_addCheck : MethodName := ⟨RX8, "addCheck", "()V"⟩
abbrev cX8_valueAt : ByteArray := prog_10_method_7_code
def yX8_valueAt : MethodName := ⟨RX8, "valueAt", "(II)I"⟩
abbrev cX8_beginsWithOctets : ByteArray := prog_10_method_8_code
def yX8_beginsWithOctets : MethodName := ⟨RX8, "beginsWithOctets", "(I)Z"⟩
abbrev cX8_checkOf : ByteArray := prog_10_method_9_code
def yX8_checkOf : MethodName := ⟨RX8, "checkOf", "(I)I"⟩
def RX9 : String := "TagField$Tag"
def TX9 : u_T := fun k => match k with
  | 0 => ("TagField$Tag", "levels", "I", true)
  | 1 => ("TagField$Tag", "shown", "[J", true)
  | 2 => ("TagField$Tag", "away", "Z", false)
  | 3 => ("TagField$Tag", "state", "I", false)
  | _ => ("TagField$Tag", "level", "I", false)
def tyX9 : Nat → FieldType := fun k => match k with
  | 0 => .int
  | 1 => .array .long
  | 2 => .boolean
  | 3 => .int
  | _ => .int
theorem nmX9 : ∀ a, a < 5 → ∀ b, b < 5 → a ≠ b → (TX9 a).2.1 ≠ (TX9 b).2.1 := by decide +kernel
theorem tyX9_ok : ∀ k, k < 5 → parseFieldDescriptor (TX9 k).2.2.1 = some (tyX9 k) := by decide +kernel
abbrev cX9_init : ByteArray := prog_11_method_1_code
def yX9_init : MethodName := ⟨RX9, "<init>", "(IIII)V"⟩
abbrev cX9_shownAt : ByteArray := prog_11_method_2_code
def yX9_shownAt : MethodName := ⟨RX9, "shownAt", "(IZIII)J"⟩
abbrev cX9_numberByte : ByteArray := prog_11_method_3_code
def yX9_numberByte : MethodName := ⟨RX9, "numberByte", "(IIII)I"⟩
abbrev cX9_looksUnfinished : ByteArray := prog_11_method_4_code
def yX9_looksUnfinished : MethodName := ⟨RX9, "looksUnfinished", "()Z"⟩
abbrev cX9_hasNumberOf : ByteArray := prog_11_method_5_code
def yX9_hasNumberOf : MethodName := ⟨RX9, "hasNumberOf", "(LTagField$Tag;)Z"⟩
abbrev cX9_move : ByteArray := prog_11_method_6_code
def yX9_move : MethodName := ⟨RX9, "move", "(ZZ)Z"⟩
abbrev cX9_beginAnew : ByteArray := prog_11_method_7_code
def yX9_beginAnew : MethodName := ⟨RX9, "beginAnew", "(Z)V"⟩
abbrev cX9_stateAndLevel : ByteArray := prog_11_method_8_code
def yX9_stateAndLevel : MethodName := ⟨RX9, "stateAndLevel", "()I"⟩
abbrev cX9_hear : ByteArray := prog_11_method_9_code
def yX9_hear : MethodName := ⟨RX9, "hear", "(LTagField$Frame;)LTagField$Reply;"⟩
abbrev cX9_become : ByteArray := prog_11_method_10_code
def yX9_become : MethodName := ⟨RX9, "become", "(ILTagField$Reply;)LTagField$Reply;"⟩
abbrev cX9_becomeReady : ByteArray := prog_11_method_11_code
def yX9_becomeReady : MethodName := ⟨RX9, "becomeReady", "(I)LTagField$Reply;"⟩
abbrev cX9_hearReady : ByteArray := prog_11_method_12_code
def yX9_hearReady : MethodName := ⟨RX9, "hearReady", "(LTagField$Frame;)LTagField$Reply;"⟩
abbrev cX9_showsWhatIsTold : ByteArray := prog_11_method_13_code
def yX9_showsWhatIsTold : MethodName := ⟨RX9, "showsWhatIsTold", "(LTagField$Frame;)Z"⟩
abbrev cX9_becomeChosen : ByteArray := prog_11_method_14_code
def yX9_becomeChosen : MethodName := ⟨RX9, "becomeChosen", "()LTagField$Reply;"⟩
abbrev cX9_hearActive : ByteArray := prog_11_method_15_code
def yX9_hearActive : MethodName := ⟨RX9, "hearActive", "(LTagField$Frame;)LTagField$Reply;"⟩
abbrev cX9_goBack : ByteArray := prog_11_method_16_code
def yX9_goBack : MethodName := ⟨RX9, "goBack", "()LTagField$Reply;"⟩
abbrev cX9_say : ByteArray := prog_11_method_17_code
def yX9_say : MethodName := ⟨RX9, "say", "(LTagField$Reply;LTagField$Frame;LTagField$Answer;)V"⟩
def RX10 : String := "TagField"
def TX10 : u_T := fun k => match k with
  | 0 => ("TagField", "typed", "LTagField$Row;", true)
  | 1 => ("TagField", "latest", "LTagField$Answer;", true)
  | 2 => ("TagField", "air", "LTagField$Air;", true)
  | _ => ("TagField", "reader", "LTagField$Reader;", true)
def tyX10 : Nat → FieldType := fun k => match k with
  | 0 => .object "TagField$Row"
  | 1 => .object "TagField$Answer"
  | 2 => .object "TagField$Air"
  | _ => .object "TagField$Reader"
theorem nmX10 : ∀ a, a < 4 → ∀ b, b < 4 → a ≠ b → (TX10 a).2.1 ≠ (TX10 b).2.1 := by decide +kernel
theorem tyX10_ok : ∀ k, k < 4 → parseFieldDescriptor (TX10 k).2.2.1 = some (tyX10 k) := by decide +kernel
abbrev cX10_init : ByteArray := prog_1_method_1_code
def yX10_init : MethodName := ⟨RX10, "<init>", "()V"⟩
abbrev cX10_tag : ByteArray := prog_1_method_2_code
def yX10_tag : MethodName := ⟨RX10, "tag", "(IIII)I"⟩
abbrev cX10_out : ByteArray := prog_1_method_3_code
def yX10_out : MethodName := ⟨RX10, "out", "(IZ)I"⟩
abbrev cX10_field : ByteArray := prog_1_method_4_code
def yX10_field : MethodName := ⟨RX10, "field", "(Z)I"⟩
abbrev cX10_bits : ByteArray := prog_1_method_5_code
def yX10_bits : MethodName := ⟨RX10, "bits", "(II)I"⟩
abbrev cX10_octet : ByteArray := prog_1_method_6_code
def yX10_octet : MethodName := ⟨RX10, "octet", "(I)I"⟩
abbrev cX10_check : ByteArray := prog_1_method_7_code
def yX10_check : MethodName := ⟨RX10, "check", "()I"⟩
abbrev cX10_go : ByteArray := prog_1_method_8_code
def yX10_go : MethodName := ⟨RX10, "go", "()I"⟩
abbrev cX10_answer : ByteArray := prog_1_method_9_code
def yX10_answer : MethodName := ⟨RX10, "answer", "(I)I"⟩
abbrev cX10_state : ByteArray := prog_1_method_10_code
def yX10_state : MethodName := ⟨RX10, "state", "(I)I"⟩
abbrev cX10_round : ByteArray := prog_1_method_11_code
def yX10_round : MethodName := ⟨RX10, "round", "()I"⟩
abbrev cX10_found : ByteArray := prog_1_method_12_code
def yX10_found : MethodName := ⟨RX10, "found", "(II)I"⟩
abbrev cX10_frames : ByteArray := prog_1_method_13_code
def yX10_frames : MethodName := ⟨RX10, "frames", "()I"⟩
def RX11 : String := "TagFieldModel"
def TX11 : u_T := fun k => match k with
  | 0 => ("TagFieldModel", "tags", "I", false)
  | 1 => ("TagFieldModel", "size", "[I", true)
  | 2 => ("TagFieldModel", "number", "[I", true)
  | 3 => ("TagFieldModel", "gone", "[Z", true)
  | 4 => ("TagFieldModel", "state", "[I", true)
  | 5 => ("TagFieldModel", "level", "[I", true)
  | 6 => ("TagFieldModel", "shown", "[I", true)
  | 7 => ("TagFieldModel", "on", "Z", false)
  | 8 => ("TagFieldModel", "typed", "I", false)
  | 9 => ("TagFieldModel", "typedBits", "[I", true)
  | 10 => ("TagFieldModel", "sent", "I", false)
  | 11 => ("TagFieldModel", "sentBits", "[I", true)
  | 12 => ("TagFieldModel", "sentBytes", "[I", true)
  | 13 => ("TagFieldModel", "kind", "I", false)
  | 14 => ("TagFieldModel", "kindLevel", "I", false)
  | 15 => ("TagFieldModel", "told", "I", false)
  | 16 => ("TagFieldModel", "toldBits", "[I", true)
  | 17 => ("TagFieldModel", "said", "I", false)
  | 18 => ("TagFieldModel", "saidBits", "[I", true)
  | 19 => ("TagFieldModel", "heard", "I", false)
  | 20 => ("TagFieldModel", "heardBits", "[I", true)
  | 21 => ("TagFieldModel", "answered", "I", false)
  | 22 => ("TagFieldModel", "answerBits", "[I", true)
  | 23 => ("TagFieldModel", "frames", "I", false)
  | 24 => ("TagFieldModel", "founds", "I", false)
  | 25 => ("TagFieldModel", "foundSize", "[I", true)
  | 26 => ("TagFieldModel", "foundBytes", "[I", true)
  | 27 => ("TagFieldModel", "known", "I", false)
  | _ => ("TagFieldModel", "knownBits", "[I", true)
def tyX11 : Nat → FieldType := fun k => match k with
  | 0 => .int
  | 1 => .array .int
  | 2 => .array .int
  | 3 => .array .boolean
  | 4 => .array .int
  | 5 => .array .int
  | 6 => .array .int
  | 7 => .boolean
  | 8 => .int
  | 9 => .array .int
  | 10 => .int
  | 11 => .array .int
  | 12 => .array .int
  | 13 => .int
  | 14 => .int
  | 15 => .int
  | 16 => .array .int
  | 17 => .int
  | 18 => .array .int
  | 19 => .int
  | 20 => .array .int
  | 21 => .int
  | 22 => .array .int
  | 23 => .int
  | 24 => .int
  | 25 => .array .int
  | 26 => .array .int
  | 27 => .int
  | _ => .array .int
theorem nmX11 : ∀ a, a < 29 → ∀ b, b < 29 → a ≠ b → (TX11 a).2.1 ≠ (TX11 b).2.1 := by decide +kernel
theorem tyX11_ok : ∀ k, k < 29 → parseFieldDescriptor (TX11 k).2.2.1 = some (tyX11 k) := by decide +kernel
abbrev cX11_init : ByteArray := prog_13_method_1_code
def yX11_init : MethodName := ⟨RX11, "<init>", "()V"⟩
abbrev cX11_byteFrom : ByteArray := prog_13_method_2_code
def yX11_byteFrom : MethodName := ⟨RX11, "byteFrom", "(IIII)I"⟩
abbrev cX11_show : ByteArray := prog_13_method_3_code
def yX11_show : MethodName := ⟨RX11, "show", "(IIIIII)V"⟩
abbrev cX11_tag : ByteArray := prog_13_method_4_code
def yX11_tag : MethodName := ⟨RX11, "tag", "(IIII)I"⟩
abbrev cX11_levels : ByteArray := prog_13_method_5_code
def yX11_levels : MethodName := ⟨RX11, "levels", "(I)I"⟩
abbrev cX11_isTag : ByteArray := prog_13_method_6_code
def yX11_isTag : MethodName := ⟨RX11, "isTag", "(I)Z"⟩
abbrev cX11_out : ByteArray := prog_13_method_7_code
def yX11_out : MethodName := ⟨RX11, "out", "(IZ)I"⟩
abbrev cX11_field : ByteArray := prog_13_method_8_code
def yX11_field : MethodName := ⟨RX11, "field", "(Z)I"⟩
abbrev cX11_bits : ByteArray := prog_13_method_9_code
def yX11_bits : MethodName := ⟨RX11, "bits", "(II)I"⟩
abbrev cX11_parity : ByteArray := prog_13_method_10_code
def yX11_parity : MethodName := ⟨RX11, "parity", "(I)I"⟩
abbrev cX11_type : ByteArray := prog_13_method_11_code
def yX11_type : MethodName := ⟨RX11, "type", "(I)I"⟩
abbrev cX11_octet : ByteArray := prog_13_method_12_code
def yX11_octet : MethodName := ⟨RX11, "octet", "(I)I"⟩
abbrev cX11_read : ByteArray := prog_13_method_13_code
def yX11_read : MethodName := ⟨RX11, "read", "([II)I"⟩
abbrev cX11_checked : ByteArray := prog_13_method_14_code
def yX11_checked : MethodName := ⟨RX11, "checked", "(II)I"⟩
abbrev cX11_check : ByteArray := prog_13_method_15_code
def yX11_check : MethodName := ⟨RX11, "check", "()I"⟩
abbrev cX11_understand : ByteArray := prog_13_method_16_code
def yX11_understand : MethodName := ⟨RX11, "understand", "()V"⟩
abbrev cX11_say : ByteArray := prog_13_method_17_code
def yX11_say : MethodName := ⟨RX11, "say", "(I)V"⟩
abbrev cX11_sayChecked : ByteArray := prog_13_method_18_code
def yX11_sayChecked : MethodName := ⟨RX11, "sayChecked", "(I)V"⟩
abbrev cX11_shows : ByteArray := prog_13_method_19_code
def yX11_shows : MethodName := ⟨RX11, "shows", "(I)Z"⟩
abbrev cX11_sayRest : ByteArray := prog_13_method_20_code
def yX11_sayRest : MethodName := ⟨RX11, "sayRest", "(I)V"⟩
abbrev cX11_back : ByteArray := prog_13_method_21_code
def yX11_back : MethodName := ⟨RX11, "back", "(I)V"⟩
abbrev cX11_begin : ByteArray := prog_13_method_22_code
def yX11_begin : MethodName := ⟨RX11, "begin", "(II)V"⟩
abbrev cX11_hear : ByteArray := prog_13_method_23_code
def yX11_hear : MethodName := ⟨RX11, "hear", "(I)V"⟩
abbrev cX11_send : ByteArray := prog_13_method_24_code
def yX11_send : MethodName := ⟨RX11, "send", "()V"⟩
abbrev cX11_go : ByteArray := prog_13_method_25_code
def yX11_go : MethodName := ⟨RX11, "go", "()I"⟩
abbrev cX11_answer : ByteArray := prog_13_method_26_code
def yX11_answer : MethodName := ⟨RX11, "answer", "(I)I"⟩
abbrev cX11_state : ByteArray := prog_13_method_27_code
def yX11_state : MethodName := ⟨RX11, "state", "(I)I"⟩
abbrev cX11_put : ByteArray := prog_13_method_28_code
def yX11_put : MethodName := ⟨RX11, "put", "(I)V"⟩
abbrev cX11_putChecked : ByteArray := prog_13_method_29_code
def yX11_putChecked : MethodName := ⟨RX11, "putChecked", "()V"⟩
abbrev cX11_sendShort : ByteArray := prog_13_method_30_code
def yX11_sendShort : MethodName := ⟨RX11, "sendShort", "(I)V"⟩
abbrev cX11_knownByte : ByteArray := prog_13_method_31_code
def yX11_knownByte : MethodName := ⟨RX11, "knownByte", "(I)I"⟩
abbrev cX11_sendSearch : ByteArray := prog_13_method_32_code
def yX11_sendSearch : MethodName := ⟨RX11, "sendSearch", "(I)V"⟩
abbrev cX11_knows : ByteArray := prog_13_method_33_code
def yX11_knows : MethodName := ⟨RX11, "knows", "(I)Z"⟩
abbrev cX11_chooses : ByteArray := prog_13_method_34_code
def yX11_chooses : MethodName := ⟨RX11, "chooses", "(I)I"⟩
abbrev cX11_round : ByteArray := prog_13_method_35_code
def yX11_round : MethodName := ⟨RX11, "round", "()I"⟩
abbrev cX11_found : ByteArray := prog_13_method_36_code
def yX11_found : MethodName := ⟨RX11, "found", "(II)I"⟩
abbrev cX11_frames : ByteArray := prog_13_method_37_code
def yX11_frames : MethodName := ⟨RX11, "frames", "()I"⟩
def RJx145de : String := "java/io/Serializable"
def RJx8e188 : String := "java/lang/Cloneable"
def RJx29ce0 : String := "java/lang/Enum"
abbrev cJx29ce0_ordinal_8abf5 : ByteArray := prog_16_method_2_code
def yJx29ce0_ordinal_8abf5 : MethodName := ⟨RJx29ce0, "ordinal", "()I"⟩
def RJ6 : String := "java/lang/Integer"
abbrev cJ6_bitCount_0f7a4 : ByteArray := prog_17_method_49_code
def yJ6_bitCount_0f7a4 : MethodName := ⟨RJ6, "bitCount", "(I)I"⟩
def RJxab1ab : String := "java/lang/Iterable"
def RJ13 : String := "java/lang/Long"
abbrev cJ13_bitCount_95d88 : ByteArray := prog_19_method_50_code
def yJ13_bitCount_95d88 : MethodName := ⟨RJ13, "bitCount", "(J)I"⟩
def RJ9 : String := "java/lang/Math"
abbrev cJ9_max_7cf53 : ByteArray := prog_20_method_65_code
def yJ9_max_7cf53 : MethodName := ⟨RJ9, "max", "(II)I"⟩
abbrev cJ9_min_7cf53 : ByteArray := prog_20_method_69_code
def yJ9_min_7cf53 : MethodName := ⟨RJ9, "min", "(II)I"⟩
def RJ10 : String := "java/lang/System"
def RJxa1e45 : String := "java/util/AbstractCollection"
abbrev cJxa1e45_init_da8c8 : ByteArray := prog_22_method_1_code
def yJxa1e45_init_da8c8 : MethodName := ⟨RJxa1e45, "<init>", "()V"⟩
def RJxc12de : String := "java/util/AbstractList"
abbrev cJxc12de_init_da8c8 : ByteArray := prog_23_method_1_code
def yJxc12de_init_da8c8 : MethodName := ⟨RJxc12de, "<init>", "()V"⟩
def RJx4a65c : String := "java/util/ArrayList"
def TJx4a65c : u_T := fun k => match k with
  | 0 => ("java/util/AbstractList", "modCount", "I", false)
  | 1 => ("java/util/ArrayList", "elementData", "[Ljava/lang/Object;", false)
  | _ => ("java/util/ArrayList", "size", "I", false)
def tyJx4a65c : Nat → FieldType := fun k => match k with
  | 0 => .int
  | 1 => .array (.object "java/lang/Object")
  | _ => .int
theorem nmJx4a65c : ∀ a, a < 3 → ∀ b, b < 3 → a ≠ b → (TJx4a65c a).2.1 ≠ (TJx4a65c b).2.1 := by decide +kernel
theorem tyJx4a65c_ok : ∀ k, k < 3 → parseFieldDescriptor (TJx4a65c k).2.2.1 = some (tyJx4a65c k) := by decide +kernel
abbrev cJx4a65c_init_da8c8 : ByteArray := prog_24_method_2_code
def yJx4a65c_init_da8c8 : MethodName := ⟨RJx4a65c, "<init>", "()V"⟩
abbrev cJx4a65c_grow_92f84 : ByteArray := prog_24_method_6_code
def yJx4a65c_grow_92f84 : MethodName := ⟨RJx4a65c, "grow", "(I)[Ljava/lang/Object;"⟩
abbrev cJx4a65c_grow_d5877 : ByteArray := prog_24_method_7_code
def yJx4a65c_grow_d5877 : MethodName := ⟨RJx4a65c, "grow", "()[Ljava/lang/Object;"⟩
abbrev cJx4a65c_size_8abf5 : ByteArray := prog_24_method_8_code
def yJx4a65c_size_8abf5 : MethodName := ⟨RJx4a65c, "size", "()I"⟩
abbrev cJx4a65c_elementData_915e3 : ByteArray := prog_24_method_18_code
def yJx4a65c_elementData_915e3 : MethodName := ⟨RJx4a65c, "elementData", "(I)Ljava/lang/Object;"⟩
abbrev cJx4a65c_get_915e3 : ByteArray := prog_24_method_20_code
def yJx4a65c_get_915e3 : MethodName := ⟨RJx4a65c, "get", "(I)Ljava/lang/Object;"⟩
abbrev cJx4a65c_add_72be8 : ByteArray := prog_24_method_24_code
def yJx4a65c_add_72be8 : MethodName := ⟨RJx4a65c, "add", "(Ljava/lang/Object;[Ljava/lang/Object;I)V"⟩
abbrev cJx4a65c_add_9ea2d : ByteArray := prog_24_method_25_code
def yJx4a65c_add_9ea2d : MethodName := ⟨RJx4a65c, "add", "(Ljava/lang/Object;)Z"⟩
def RJ7 : String := "java/util/Arrays"
abbrev cJ7_copyOf_1904c : ByteArray := prog_25_method_119_code
def yJ7_copyOf_1904c : MethodName := ⟨RJ7, "copyOf", "([Ljava/lang/Object;I)[Ljava/lang/Object;"⟩
abbrev cJ7_copyOf_6403c : ByteArray := prog_25_method_120_code
def yJ7_copyOf_6403c : MethodName := ⟨RJ7, "copyOf", "([Ljava/lang/Object;ILjava/lang/Class;)[Ljava/lang/Object;"⟩
def RJx5ef63 : String := "java/util/Collection"
def RJxbd725 : String := "java/util/List"
def RJ15 : String := "java/util/Objects"
abbrev cJ15_checkIndex_7cf53 : ByteArray := prog_28_method_17_code
def yJ15_checkIndex_7cf53 : MethodName := ⟨RJ15, "checkIndex", "(II)I"⟩
def RJxf0a74 : String := "java/util/RandomAccess"
def RJxa66e6 : String := "java/util/SequencedCollection"
def RJ8 : String := "jdk/internal/util/ArraysSupport"
abbrev cJ8_newLength_cabcc : ByteArray := prog_31_method_27_code
def yJ8_newLength_cabcc : MethodName := ⟨RJ8, "newLength", "(III)I"⟩
abbrev cJ8_hugeLength_7cf53 : ByteArray := prog_31_method_28_code
def yJ8_hugeLength_7cf53 : MethodName := ⟨RJ8, "hugeLength", "(II)I"⟩
def RJ3 : String := "jdk/internal/util/Preconditions"
abbrev cJ3_checkIndex_8e157 : ByteArray := prog_32_method_11_code
def yJ3_checkIndex_8e157 : MethodName := ⟨RJ3, "checkIndex", "(IILjava/util/function/BiFunction;)I"⟩
def RL : String := "TagFieldLaw"
abbrev cL_law : ByteArray := code
def yL_law : MethodName := ⟨RL, "law", "([I)Z"⟩
-- the classes whose objects the worlds hold
abbrev cls : List vw_C := [(RX1, TX1, 4), (RX2, TX2, 3), (RX4, TX4, 5), (RX6, TX6, 7), (RX8, TX8, 2), (RX9, TX9, 5), (RX10, TX10, 4), (RX11, TX11, 29), (RJx4a65c, TJx4a65c, 3)]
end
section
/-! my own heap words: a world is a partial map of addresses to cells; the heap that the law began with lies below it and stays -/
abbrev hp_M : Type := Nat → Option va_E
def hp_up (μ : hp_M) (a : Nat) (e : va_E) : hp_M := fun q => if q = a then some e else μ q
theorem hp_up_s (μ : hp_M) (a : Nat) (e : va_E) : hp_up μ a e a = some e := if_pos rfl
theorem hp_up_n {μ : hp_M} {a q : Nat} {e : va_E} (h : q ≠ a) : hp_up μ a e q = μ q := if_neg h
theorem hp_up_e {μ : hp_M} {a q : Nat} {e : va_E} (h : q = a) : hp_up μ a e q = some e := if_pos h
/-- classes and slots; the first heap; the classes of arrays; the addresses of constants -/
abbrev hp_X : Type := va_G × Heap × (Nat → ClassId) × (Nat → Nat)
def hp_w (X : hp_X) (cl : List vw_C) (μ : hp_M) (nx : Nat) (H : Heap) (locs : List Loc) : Prop :=
  H.size = nx ∧ X.2.1.size ≤ nx ∧ (∀ q : Nat, q < X.2.1.size → H[q]? = X.2.1[q]?) ∧ (∀ (a : Nat) (e : va_E), μ a = some e → X.2.1.size ≤ a ∧ va_at X.1 cl (a, e) H) ∧ ∀ q ∈ locs, X.2.1.size ≤ q.base
theorem hp_w.lt {X : hp_X} {cl : List vw_C} {μ : hp_M} {nx : Nat} {H : Heap} {locs : List Loc} (h : hp_w X cl μ nx H locs) {a : Nat} {e : va_E} (ha : μ a = some e) : a < nx := by
  have := (h.2.2.2.1 a e ha).2.lt
  rw [h.1] at this
  exact this
theorem hp_w.fresh {X : hp_X} {cl : List vw_C} {μ : hp_M} {nx : Nat} {H : Heap} {locs : List Loc} (h : hp_w X cl μ nx H locs) {a : Nat} (ha : nx ≤ a) : μ a = none := by
  cases hm : μ a with
  | none => rfl
  | some e => exact absurd (h.lt hm) (by omega)
theorem hp_w.set {X : hp_X} {cl : List vw_C} {μ : hp_M} {nx : Nat} {H H1 : Heap} {locs : List Loc} {a k : Nat} {e0 e : va_E} (h : hp_w X cl μ nx H locs) (ha : μ a = some e0) (he : va_at X.1 cl (a, e) H1) (z : H1.size = H.size) (oq : ∀ q : Nat, q ≠ a → H1[q]? = H[q]?) : hp_w X cl (hp_up μ a e) nx H1 (locs ++ [⟨a, k⟩]) := by
  obtain ⟨h1, h2, h3, h4, h5⟩ := h
  have hA := (h4 a e0 ha).1
  refine ⟨z.trans h1, h2, fun q hq => ?_, fun b x hb => ?_, fun q hq => ?_⟩
  · rw [oq q (by omega)]
    exact h3 q hq
  · by_cases hba : b = a
    · subst hba
      rw [hp_up_s] at hb
      cases hb
      exact ⟨hA, he⟩
    · rw [hp_up_n hba] at hb
      exact ⟨(h4 b x hb).1, (h4 b x hb).2.kept (oq b hba)⟩
  · rcases List.mem_append.mp hq with q1 | q1
    · exact h5 q q1
    · rw [List.mem_singleton.mp q1]
      exact hA
theorem hp_w.push {X : hp_X} {cl : List vw_C} {μ : hp_M} {nx : Nat} {H H1 : Heap} {locs : List Loc} {e : va_E} (h : hp_w X cl μ nx H locs) (he : va_at X.1 cl (nx, e) H1) (z : H1.size = nx + 1) (o : ∀ q : Nat, q < nx → H1[q]? = H[q]?) : hp_w X cl (hp_up μ nx e) (nx + 1) H1 locs := by
  have hf := fun b x hb => h.lt (a := b) (e := x) hb
  obtain ⟨h1, h2, h3, h4, h5⟩ := h
  refine ⟨z, by omega, fun q hq => ?_, fun b x hb => ?_, h5⟩
  · rw [o q (by omega)]
    exact h3 q hq
  · by_cases hba : b = nx
    · subst hba
      rw [hp_up_s] at hb
      cases hb
      exact ⟨h2, he⟩
    · rw [hp_up_n hba] at hb
      exact ⟨(h4 b x hb).1, (h4 b x hb).2.kept (o b (hf b x hb))⟩
theorem hp_w.congr {X : hp_X} {cl : List vw_C} {μ μ' : hp_M} {nx : Nat} {H : Heap} {locs : List Loc} (h : hp_w X cl μ nx H locs) (e : μ = μ') : hp_w X cl μ' nx H locs := e ▸ h
/-- cells -/
abbrev hp_i (X : hp_X) (n : Nat) (f : Nat → Int32) : va_E := .inl (X.2.2.1 0, n, .inl f)
abbrev hp_l (X : hp_X) (n : Nat) (f : Nat → Int64) : va_E := .inl (X.2.2.1 1, n, .inr (.inl f))
abbrev hp_q (X : hp_X) (n : Nat) (f : Nat → Option Nat) : va_E := .inl (X.2.2.1 2, n, .inr (.inr (.inr (.inr f))))
abbrev hp_o (ci : Nat) (fs : List Value) : va_E := .inr (ci, fs)
/-- what a field instruction links -/
def hp_F (cl : List vw_C) (s : State) (args : Array Value) (own : String) (index ci k : Nat) : Prop :=
  ∃ (C : String) (T : u_T) (N : Nat) (ref : String), cl[ci]? = some (C, T, N) ∧ k < N ∧ (∀ w ∈ u_ws C T N, w.before args s = true) ∧ ((Cond.fieldLink own index ref (T k).2.1 (T k).2.2.1).before args s = true ∨ ∃ host : String, (Cond.fieldLinkNest own index ref (T k).2.1 (T k).2.2.1 host).before args s = true) ∧ (∀ x, s.fieldFound? (T k).1 (T k).2.1 (T k).2.2.1 = some x → s.fieldFound? ref (T k).2.1 (T k).2.2.1 = some x)
/-- a class's table is a good one -/
def hp_T (T : u_T) (N : Nat) (ty : Nat → FieldType) : Prop := (∀ k, k < N → parseFieldDescriptor (T k).2.2.1 = some (ty k)) ∧ (∀ a, a < N → ∀ b, b < N → a ≠ b → (T a).2.1 ≠ (T b).2.1)
def hp_P (cl : List vw_C) (s : State) (args : Array Value) (own : String) (index ci k : Nat) (ty : FieldType) (fin : Bool) : Prop :=
  ∃ (C : String) (T : u_T) (N : Nat) (ref : String) (ty0 : Nat → FieldType), cl[ci]? = some (C, T, N) ∧ k < N ∧ (∀ w ∈ u_ws C T N, w.before args s = true) ∧ ((Cond.fieldLink own index ref (T k).2.1 (T k).2.2.1).before args s = true ∨ (fin = false ∧ ∃ host : String, (Cond.fieldLinkNest own index ref (T k).2.1 (T k).2.2.1 host).before args s = true)) ∧ (∀ x, s.fieldFound? (T k).1 (T k).2.1 (T k).2.2.1 = some x → s.fieldFound? ref (T k).2.1 (T k).2.2.1 = some x) ∧ (T k).2.2.2 = fin ∧ parseFieldDescriptor (T k).2.2.1 = some ty ∧ hp_T T N ty0 ∧ (fin = true → (T k).1 = own)
section HPA
variable {p : Program} {l : Launch} {e : Env} {R : Room} {s : State} {m : MethodId} {args : Array Value} {below : List Frame} {meth : Method} {c : Code} {H : Heap} {locs : List Loc} {cells slots : Nat} {Q : State → Prop}
variable {cc : ByteArray} {pc : Nat} {ls : Array Slot} {rest : List Value} {X : hp_X} {cl : List vw_C} {a nx : Nat} {tys : List (ClassId × FieldType)} {μ : hp_M} {own : String} {index ci k : Nat} {fs : List Value} {v : Value}
theorem hp_get (hexec : p.tables.exec = Jvm.exec) (hb : c.code = cc) (hown : s.vm.findClass own = some m.cls) (hK : va_K X.1 cl tys s) (hH : hp_w X cl μ nx H locs) (hF : hp_F cl s args own index ci k) (hμ : μ a = some (.inr (ci, fs))) (hv : fs[k]? = some v) (hdg : decode cc pc = .ok (.getfield index, 3))
    (kk : W p l e R s m args below meth c H locs cells slots Q (F0 m (pc + 3) ls (v :: rest))) : W p l e R s m args below meth c H locs cells slots Q (F0 m pc ls (.ref a :: rest)) := by
  obtain ⟨C, T, N, ref, hc, hk, hin, hlk, hsame⟩ := hF
  obtain ⟨r, h1, cell, q1, q2, q3, q4⟩ := (hH.2.2.2.1 a _ hμ).2
  have hr : r = (C, T, N) := Option.some.inj (h1.symm.trans hc)
  subst hr
  obtain ⟨hS, hfc, kC, hkC, hkind⟩ := hK.1 ci _ hc
  obtain ⟨cf, kf, fi, f, hi, hsl⟩ := hS k hk
  have hst := (u_facts hfc hkC (u_lays hin (fun _ h => h) hk) hi).1
  have hsv : cell.slots[f.slot]? = some v := by
    rw [hsl, q4 k hk]
    simp [vp_V, hv]
  rcases hlk with hl | ⟨host, hl⟩
  · exact W.getf hexec hb hown hl (hsame _ hi) hst q1 (by rw [q3]; exact fun h => by cases h) (v := v) hsv rfl rfl hdg kk
  · exact va_Wgetf hexec hb hown hl (hsame _ hi) hst q1 (by rw [q3]; exact fun h => by cases h) (v := v) hsv rfl rfl hdg kk
theorem hp_put (hexec : p.tables.exec = Jvm.exec) (hb : c.code = cc) (hown : s.vm.findClass own = some m.cls) (hK : va_K X.1 cl tys s) (hH : hp_w X cl μ nx H locs) {ty : FieldType} (hF : hp_P cl s args own index ci k ty false) (hμ : μ a = some (.inr (ci, fs))) (hn : narrow ty v = v) (hfit : fits ty v = true) (hl : k < fs.length) (hdg : decode cc pc = .ok (.putfield index, 3))
    (kk : ∀ (H1 : Heap) (locs1 : List Loc) (μ1 : hp_M), μ1 a = some (.inr (ci, fs.set k v)) → (∀ q, q ≠ a → μ1 q = μ q) → hp_w X cl μ1 nx H1 locs1 → W p l e R s m args below meth c H1 locs1 cells slots Q (F0 m (pc + 3) ls rest)) : W p l e R s m args below meth c H locs cells slots Q (F0 m pc ls (v :: .ref a :: rest)) := by
  obtain ⟨C, T, N, ref, ty0, hc, hk, hin, hlk, hsame, hfin, hd, ⟨hty, hnm⟩, -⟩ := hF
  have hap := va_apart (own := own) hin (fun _ h => h) ty0 hty hnm hK hc
  obtain ⟨r, h1, cell, q1, q2, q3, q4⟩ := (hH.2.2.2.1 a _ hμ).2
  have hr : r = (C, T, N) := Option.some.inj (h1.symm.trans hc)
  subst hr
  obtain ⟨hS, hfc, kC, hkC, hkind⟩ := hK.1 ci _ hc
  obtain ⟨cf, kf, fi, f, hi, hsl⟩ := hS k hk
  have hlay := hin _ (u_in_lay hk)
  unfold u_lay at hlay
  rw [if_neg (by rw [hfin]; decide)] at hlay
  have hst := (u_facts hfc hkC (u_lays hin (fun _ h => h) hk) hi).1
  have h6 := u_store hfc hkC hkind hlay hi hd hn hfit
  rcases hlk with hlk | ⟨-, host, hlk⟩
  · refine W.putK hexec hb (f := f) ⟨hown, hlk, ⟨_, _, _, hsame _ hi⟩, hst⟩ (by rw [q2]; exact h6) q1 q3 (by rw [hsl]; exact k2_hasslot (q4 k hk)) rfl rfl hdg fun H' e1 e2 e3 => ?_
    rw [hsl] at e1 ⊢
    exact kk H' _ _ (hp_up_s _ _ _) (fun q h => hp_up_n h) (hH.set hμ ⟨_, hc, t_OB.to (V := updV (vp_V fs) k v) ⟨_, e1, q2, q3, t_set q4 hap hk v⟩ (fun j _ => vp_updV_set hl v j)⟩ e2 e3)
  · refine va_WputK hexec hb (f := f) hown hlk (hsame _ hi) hst (by rw [q2]; exact h6) q1 q3 (by rw [hsl]; exact k2_hasslot (q4 k hk)) rfl rfl hdg fun H' e1 e2 e3 => ?_
    rw [hsl] at e1 ⊢
    exact kk H' _ _ (hp_up_s _ _ _) (fun q h => hp_up_n h) (hH.set hμ ⟨_, hc, t_OB.to (V := updV (vp_V fs) k v) ⟨_, e1, q2, q3, t_set q4 hap hk v⟩ (fun j _ => vp_updV_set hl v j)⟩ e2 e3)
theorem hp_putF (hexec : p.tables.exec = Jvm.exec) (hb : c.code = cc) (hown : s.vm.findClass own = some m.cls) (hK : va_K X.1 cl tys s) (hH : hp_w X cl μ nx H locs) {ty : FieldType} (hF : hp_P cl s args own index ci k ty true) (hin2 : meth.name = "<init>") (hμ : μ a = some (.inr (ci, fs))) (hn : narrow ty v = v) (hfit : fits ty v = true) (hl : k < fs.length) (hdg : decode cc pc = .ok (.putfield index, 3))
    (kk : ∀ (H1 : Heap) (locs1 : List Loc) (μ1 : hp_M), μ1 a = some (.inr (ci, fs.set k v)) → (∀ q, q ≠ a → μ1 q = μ q) → hp_w X cl μ1 nx H1 locs1 → W p l e R s m args below meth c H1 locs1 cells slots Q (F0 m (pc + 3) ls rest)) : W p l e R s m args below meth c H locs cells slots Q (F0 m pc ls (v :: .ref a :: rest)) := by
  obtain ⟨C, T, N, ref, ty0, hc, hk, hin, hlk, hsame, hfin, hd, ⟨hty, hnm⟩, hdecl⟩ := hF
  have hdecl := hdecl rfl
  have hap := va_apart (own := own) hin (fun _ h => h) ty0 hty hnm hK hc
  obtain ⟨r, h1, cell, q1, q2, q3, q4⟩ := (hH.2.2.2.1 a _ hμ).2
  have hr : r = (C, T, N) := Option.some.inj (h1.symm.trans hc)
  subst hr
  obtain ⟨hS, hfc, kC, hkC, hkind⟩ := hK.1 ci _ hc
  obtain ⟨cf, kf, fi, f, hi, hsl⟩ := hS k hk
  have hlay := hin _ (u_in_lay hk)
  unfold u_lay at hlay
  rw [if_pos hfin] at hlay
  have hst := (u_facts hfc hkC (u_lays hin (fun _ h => h) hk) hi).1
  have hcf : m.cls = cf := by
    obtain ⟨_, _, c', _, _, _, -, -, hf', -, -, -, hown2, -⟩ := Cond.laysFinal_spec hlay
    have e1 : c' = cf := by have := hi.symm.trans hf'; simp at this; exact this.1.symm
    rw [hdecl] at hown2
    rw [← e1]; exact Option.some.inj (hown.symm.trans hown2)
  have h6 := u_fits hfc hkC hkind (Or.inr hlay) hi hd hn hfit
  rcases hlk with hlk | ⟨h0, -⟩
  · refine W.putFinK hexec hb hown hlk (hsame _ hi) hst hcf hin2 (by rw [q2]; exact h6) q1 q3 (by rw [hsl]; exact k2_hasslot (q4 k hk)) rfl rfl hdg fun H' e1 e2 e3 => ?_
    rw [hsl] at e1 ⊢
    exact kk H' _ _ (hp_up_s _ _ _) (fun q h => hp_up_n h) (hH.set hμ ⟨_, hc, t_OB.to (V := updV (vp_V fs) k v) ⟨_, e1, q2, q3, t_set q4 hap hk v⟩ (fun j _ => vp_updV_set hl v j)⟩ e2 e3)
  · cases h0
theorem hp_iald (hexec : p.tables.exec = Jvm.exec) (hb : c.code = cc) (hA : ArrOfT s (X.2.2.1 0) .int) (hH : hp_w X cl μ nx H locs) {n : Nat} {f : Nat → Int32} (hμ : μ a = some (hp_i X n f)) {i : Int32} (hin : vp_in i n) (hdg : decode cc pc = .ok (.iaload, 1))
    (kk : W p l e R s m args below meth c H locs cells slots Q (F0 m (pc + 1) ls (.int (f i.toNatClampNeg) :: rest))) : W p l e R s m args below meth c H locs cells slots Q (F0 m pc ls (.int i :: .ref a :: rest)) := by
  have hlt : i.toNatClampNeg < n := Nat.not_le.mp fun q => hin (Or.inr q)
  exact W.iald (v := .int (f i.toNatClampNeg)) hexec hb (hH.2.2.2.1 a _ hμ).2 (hA n (fun j => .int (f j))) (fun q => by cases q) (by show ¬ (i < 0 ∨ (arrV _ _ _).slots.size ≤ _); rw [arrV_size]; exact hin) (by show (arrV _ _ _).slots[_]? = _; rw [arrV_read _ _ hlt]) rfl rfl hdg kk
theorem hp_lald (hexec : p.tables.exec = Jvm.exec) (hb : c.code = cc) (hA : ArrOfT s (X.2.2.1 1) .long) (hH : hp_w X cl μ nx H locs) {n : Nat} {f : Nat → Int64} (hμ : μ a = some (hp_l X n f)) {i : Int32} (hin : vp_in i n) (hdg : decode cc pc = .ok (.laload, 1))
    (kk : W p l e R s m args below meth c H locs cells slots Q (F0 m (pc + 1) ls (.long (f i.toNatClampNeg) :: rest))) : W p l e R s m args below meth c H locs cells slots Q (F0 m pc ls (.int i :: .ref a :: rest)) := by
  have hlt : i.toNatClampNeg < n := Nat.not_le.mp fun q => hin (Or.inr q)
  exact W.lald (v := .long (f i.toNatClampNeg)) hexec hb (hH.2.2.2.1 a _ hμ).2 (hA n (fun j => .long (f j))) (fun q => by cases q) (by show ¬ (i < 0 ∨ (arrV _ _ _).slots.size ≤ _); rw [arrV_size]; exact hin) (by show (arrV _ _ _).slots[_]? = _; rw [arrV_read _ _ hlt]) rfl rfl hdg kk
theorem hp_aald (hexec : p.tables.exec = Jvm.exec) (hb : c.code = cc) {C : String} (hA : ArrOfT s (X.2.2.1 2) (.object C)) (hH : hp_w X cl μ nx H locs) {n : Nat} {f : Nat → Option Nat} (hμ : μ a = some (hp_q X n f)) {i : Int32} (hin : vp_in i n) (hdg : decode cc pc = .ok (.aaload, 1))
    (kk : W p l e R s m args below meth c H locs cells slots Q (F0 m (pc + 1) ls (va_rf (f i.toNatClampNeg) :: rest))) : W p l e R s m args below meth c H locs cells slots Q (F0 m pc ls (.int i :: .ref a :: rest)) := by
  have hlt : i.toNatClampNeg < n := Nat.not_le.mp fun q => hin (Or.inr q)
  exact W.aald (v := va_rf (f i.toNatClampNeg)) (ty := .object C) hexec hb (hH.2.2.2.1 a _ hμ).2 (hA n (fun j => va_rf (f j))) rfl (fun q => by cases q) (by show ¬ (i < 0 ∨ (arrV _ _ _).slots.size ≤ _); rw [arrV_size]; exact hin) (by show (arrV _ _ _).slots[_]? = _; rw [arrV_read _ _ hlt]) rfl rfl hdg kk
theorem hp_iast (hexec : p.tables.exec = Jvm.exec) (hb : c.code = cc) (hA : ArrOfT s (X.2.2.1 0) .int) (hH : hp_w X cl μ nx H locs) {n : Nat} {f : Nat → Int32} (hμ : μ a = some (hp_i X n f)) {i x : Int32} (hin : vp_in i n) (hdg : decode cc pc = .ok (.iastore, 1))
    (kk : ∀ (H1 : Heap) (locs1 : List Loc) (μ1 : hp_M), μ1 a = some (hp_i X n (upd f i.toNatClampNeg x)) → (∀ q, q ≠ a → μ1 q = μ q) → hp_w X cl μ1 nx H1 locs1 → W p l e R s m args below meth c H1 locs1 cells slots Q (F0 m (pc + 1) ls rest)) : W p l e R s m args below meth c H locs cells slots Q (F0 m pc ls (.int x :: .int i :: .ref a :: rest)) := by
  refine W.iast hexec hb (hH.2.2.2.1 a _ hμ).2 (hA n (fun j => .int (f j))) (fun q => by cases q) (by show ¬ (i < 0 ∨ (arrV _ _ _).slots.size ≤ _); rw [arrV_size]; exact hin) rfl rfl hdg fun H1 e z oq => ?_
  refine kk H1 _ _ (hp_up_s _ _ _) (fun q h => hp_up_n h) (hH.set hμ ?_ z oq)
  show H1[a]? = some (vp_cell _ _)
  rw [e]
  rw [vp_cell_i, vp_cell_i, arrV_store]
  congr 2
  funext q
  by_cases hq : q = i.toNatClampNeg
  · subst hq
    simp [updV, upd]
  · simp [updV, upd, hq]
theorem hp_last (hexec : p.tables.exec = Jvm.exec) (hb : c.code = cc) (hA : ArrOfT s (X.2.2.1 1) .long) (hH : hp_w X cl μ nx H locs) {n : Nat} {f : Nat → Int64} (hμ : μ a = some (hp_l X n f)) {i : Int32} {x : Int64} (hin : vp_in i n) (hdg : decode cc pc = .ok (.lastore, 1))
    (kk : ∀ (H1 : Heap) (locs1 : List Loc) (μ1 : hp_M), μ1 a = some (hp_l X n (vp_updL f i.toNatClampNeg x)) → (∀ q, q ≠ a → μ1 q = μ q) → hp_w X cl μ1 nx H1 locs1 → W p l e R s m args below meth c H1 locs1 cells slots Q (F0 m (pc + 1) ls rest)) : W p l e R s m args below meth c H locs cells slots Q (F0 m pc ls (.long x :: .int i :: .ref a :: rest)) := by
  refine W.last hexec hb (hH.2.2.2.1 a _ hμ).2 (hA n (fun j => .long (f j))) (fun q => by cases q) (by show ¬ (i < 0 ∨ (arrV _ _ _).slots.size ≤ _); rw [arrV_size]; exact hin) rfl rfl hdg fun H1 e z oq => ?_
  refine kk H1 _ _ (hp_up_s _ _ _) (fun q h => hp_up_n h) (hH.set hμ ?_ z oq)
  show H1[a]? = some (vp_cell _ _)
  rw [e]
  rw [vp_cell_l, vp_cell_l, arrV_store]
  congr 2
  funext q
  by_cases hq : q = i.toNatClampNeg
  · subst hq
    simp [updV, vp_updL]
  · simp [updV, vp_updL, hq]
theorem hp_alen (hexec : p.tables.exec = Jvm.exec) (hb : c.code = cc) {cA : ClassId} {ty : FieldType} (hA : ArrOfT s cA ty) (hH : hp_w X cl μ nx H locs) {x : vp_A} (hμ : μ a = some (.inl (cA, x))) {w : Int32} (hv : nI x.1 = w) (hdg : decode cc pc = .ok (.arraylength, 1))
    (kk : W p l e R s m args below meth c H locs cells slots Q (F0 m (pc + 1) ls (.int w :: rest))) : W p l e R s m args below meth c H locs cells slots Q (F0 m pc ls (.ref a :: rest)) := by
  subst hv
  have hc := (hH.2.2.2.1 a _ hμ).2
  obtain ⟨n, f | f | f | f | f⟩ := x
  · exact W.alen (n := Int32.ofNat n) hexec hb hc (hA n (fun j => .int (f j))) (by rw [vp_cell_i, arrV_size] <;> rfl) rfl rfl hdg kk
  · exact W.alen (n := Int32.ofNat n) hexec hb hc (hA n (fun j => .long (f j))) (by rw [vp_cell_l, arrV_size] <;> rfl) rfl rfl hdg kk
  · exact W.alen (n := Int32.ofNat n) hexec hb hc (hA n (fun j => .float (f j))) (by rw [vp_cell_f, arrV_size] <;> rfl) rfl rfl hdg kk
  · exact W.alen (n := Int32.ofNat n) hexec hb hc (hA n (fun j => .double (f j))) (by rw [vp_cell_d, arrV_size] <;> rfl) rfl rfl hdg kk
  · exact W.alen (n := Int32.ofNat n) hexec hb hc (hA n (fun j => va_rf (f j))) (by rw [vp_cell_q, arrV_size] <;> rfl) rfl rfl hdg kk
/-- a new int or long array -/
theorem hp_newi (hexec : p.tables.exec = Jvm.exec) (hb : c.code = cc) (harr : (Cond.arrayClass .int).before args s = true) (hR : s.vm.findClass "[I" = some (X.2.2.1 0)) (hH : hp_w X cl μ nx H locs) {n : Int32} {N : Nat} (hn : ¬ n < 0) (hN : n.toNatClampNeg = N) (hbytes : N * 4 ≤ 536870912) (hcells : cells + 1 ≤ R.cells) (hslots : slots + N ≤ R.slots) (hdg : decode cc pc = .ok (.newarray .int, 2))
    (kk : ∀ (H1 : Heap) (μ1 : hp_M), μ1 nx = some (hp_i X N (fun _ => 0)) → (∀ q, q ≠ nx → μ1 q = μ q) → hp_w X cl μ1 (nx + 1) H1 locs → W p l e R s m args below meth c H1 locs (cells + 1) (slots + N) Q (F0 m (pc + 2) ls (.ref nx :: rest))) : W p l e R s m args below meth c H locs cells slots Q (F0 m pc ls (.int n :: rest)) := by
  refine va_newaK (atype := .int) hexec hb harr rfl hdg rfl hn hN hbytes hcells hslots hH.1 fun H1 cA e1 z1 o1 hAr hNm => ?_
  have hcA : cA = X.2.2.1 0 := Option.some.inj (hNm.symm.trans hR)
  subst hcA
  exact kk H1 _ (hp_up_s _ _ _) (fun q h => hp_up_n h) (hH.push (show H1[nx]? = some (vp_cell _ _) from e1) z1 o1)
theorem hp_newl (hexec : p.tables.exec = Jvm.exec) (hb : c.code = cc) (harr : (Cond.arrayClass .long).before args s = true) (hR : s.vm.findClass "[J" = some (X.2.2.1 1)) (hH : hp_w X cl μ nx H locs) {n : Int32} {N : Nat} (hn : ¬ n < 0) (hN : n.toNatClampNeg = N) (hbytes : N * 8 ≤ 536870912) (hcells : cells + 1 ≤ R.cells) (hslots : slots + N ≤ R.slots) (hdg : decode cc pc = .ok (.newarray .long, 2))
    (kk : ∀ (H1 : Heap) (μ1 : hp_M), μ1 nx = some (hp_l X N (fun _ => 0)) → (∀ q, q ≠ nx → μ1 q = μ q) → hp_w X cl μ1 (nx + 1) H1 locs → W p l e R s m args below meth c H1 locs (cells + 1) (slots + N) Q (F0 m (pc + 2) ls (.ref nx :: rest))) : W p l e R s m args below meth c H locs cells slots Q (F0 m pc ls (.int n :: rest)) := by
  refine va_newaK (atype := .long) hexec hb harr rfl hdg rfl hn hN hbytes hcells hslots hH.1 fun H1 cA e1 z1 o1 hAr hNm => ?_
  have hcA : cA = X.2.2.1 1 := Option.some.inj (hNm.symm.trans hR)
  subst hcA
  exact kk H1 _ (hp_up_s _ _ _) (fun q h => hp_up_n h) (hH.push (show H1[nx]? = some (vp_cell _ _) from e1) z1 o1)
/-- a new object -/
def hp_N (cl : List vw_C) (s : State) (args : Array Value) (own : String) (index ci N : Nat) (fs : List Value) : Prop :=
  ∃ (C : String) (T : u_T) (ty : Nat → FieldType), cl[ci]? = some (C, T, N) ∧ (∀ w ∈ u_ws C T N, w.before args s = true) ∧ (∀ k, k < N → parseFieldDescriptor (T k).2.2.1 = some (ty k)) ∧ (Cond.classLink own index C).before args s = true ∧ (Cond.instantiable C N).before args s = true ∧ (Cond.initialized C).before args s = true ∧ ∀ j, j < N → defaultValue (ty j) = vp_V fs j
theorem hp_new (hexec : p.tables.exec = Jvm.exec) (hb : c.code = cc) (hown : s.vm.findClass own = some m.cls) (hK : va_K X.1 cl tys s) (hH : hp_w X cl μ nx H locs) {N : Nat} (hN : hp_N cl s args own index ci N fs) (hcells : cells + 1 ≤ R.cells) (hslots : slots + N ≤ R.slots) (hdg : decode cc pc = .ok (.new index, 3))
    (kk : ∀ (H1 : Heap) (μ1 : hp_M), μ1 nx = some (.inr (ci, fs)) → (∀ q, q ≠ nx → μ1 q = μ q) → hp_w X cl μ1 (nx + 1) H1 locs → W p l e R s m args below meth c H1 locs (cells + 1) (slots + N) Q (F0 m (pc + 3) ls (.ref nx :: rest))) : W p l e R s m args below meth c H locs cells slots Q (F0 m pc ls rest) := by
  obtain ⟨C, T, ty, hc, hin, hty, hcl, hinst, hini, hfs⟩ := hN
  have hKn := hK.1 ci _ hc
  refine W.newcK hexec hb hown hcl hinst hini rfl hdg hcells hslots hKn.2.1 hH.1 fun H1 kC hkC e1 z1 o1 => ?_
  exact kk H1 _ (hp_up_s _ _ _) (fun q h => hp_up_n h) (hH.push ⟨_, hc, (u_born ty hin (fun _ h => h) hKn hkC e1 hty).to hfs⟩ z1 o1)
/-- who receives a call -/
theorem hp_recv (hK : va_K X.1 cl tys s) (hH : hp_w X cl μ nx H locs) {q : vw_C} (hc : cl[ci]? = some q) (hμ : μ a = some (.inr (ci, fs))) : ∃ cell : Cell, H[a]? = some cell ∧ cell.vm.isStatics = false ∧ s.vm.findClass q.1 = some cell.cls := by
  obtain ⟨q', h1, cell, g1, g2, g3, -⟩ := (hH.2.2.2.1 a _ hμ).2
  exact ⟨cell, g1, by rw [g3]; rfl, by rw [g2]; exact (hK.1 ci q hc).2.1⟩
end HPA
end
