section
-- ===== PART A: goes FIRST, ahead of the names: the tables' words, and 'selects' of the private methods out of them =====
/-- a private method of a class that the tables say can be made, by its rows of tables_1 -/
def lw_okq (q : MethodName × Nat) : Prop := (q.1.cls ≠ "java/lang/invoke/MethodHandle" ∧ q.1.cls ≠ "java/lang/invoke/VarHandle") ∧ Cond.instantiable q.1.cls q.2 ∈ tables_1 ∧ Cond.privateMethod q.1 ∈ tables_1 ∧ Cond.instanceMethod q.1 ∈ tables_1
theorem lw_p0 : lw_okq (⟨"OneJohn$Reader", "nextToken", "(LOneJohn$Text;)V"⟩, 6) := ⟨⟨by decide +kernel, by decide +kernel⟩, List.mem_of_getElem? (i := 41) (by decide +kernel), List.mem_of_getElem? (i := 286) (by decide +kernel), List.mem_of_getElem? (i := 287) (by decide +kernel)⟩
theorem lw_p1 : lw_okq (⟨"OneJohn$Reader", "takeNumber", "(LOneJohn$Text;)V"⟩, 6) := ⟨⟨by decide +kernel, by decide +kernel⟩, List.mem_of_getElem? (i := 41) (by decide +kernel), List.mem_of_getElem? (i := 293) (by decide +kernel), List.mem_of_getElem? (i := 294) (by decide +kernel)⟩
theorem lw_p2 : lw_okq (⟨"OneJohn$Reader", "readItem", "(LOneJohn$Text;I)Z"⟩, 6) := ⟨⟨by decide +kernel, by decide +kernel⟩, List.mem_of_getElem? (i := 41) (by decide +kernel), List.mem_of_getElem? (i := 297) (by decide +kernel), List.mem_of_getElem? (i := 298) (by decide +kernel)⟩
theorem lw_p3 : lw_okq (⟨"OneJohn$Reader", "readNames", "(LOneJohn$Text;)Z"⟩, 6) := ⟨⟨by decide +kernel, by decide +kernel⟩, List.mem_of_getElem? (i := 41) (by decide +kernel), List.mem_of_getElem? (i := 301) (by decide +kernel), List.mem_of_getElem? (i := 302) (by decide +kernel)⟩
theorem lw_p4 : lw_okq (⟨"OneJohn$Reader", "readNumber", "(LOneJohn$Text;II)Z"⟩, 6) := ⟨⟨by decide +kernel, by decide +kernel⟩, List.mem_of_getElem? (i := 41) (by decide +kernel), List.mem_of_getElem? (i := 305) (by decide +kernel), List.mem_of_getElem? (i := 306) (by decide +kernel)⟩
theorem lw_p5 : lw_okq (⟨"OneJohn$Reader", "isEnded", "(LOneJohn$Text;)Z"⟩, 6) := ⟨⟨by decide +kernel, by decide +kernel⟩, List.mem_of_getElem? (i := 41) (by decide +kernel), List.mem_of_getElem? (i := 310) (by decide +kernel), List.mem_of_getElem? (i := 311) (by decide +kernel)⟩
theorem lw_p6 : lw_okq (⟨"OneJohn$Reader", "readPerson", "(LOneJohn$Text;)Z"⟩, 6) := ⟨⟨by decide +kernel, by decide +kernel⟩, List.mem_of_getElem? (i := 41) (by decide +kernel), List.mem_of_getElem? (i := 314) (by decide +kernel), List.mem_of_getElem? (i := 315) (by decide +kernel)⟩
theorem lw_p7 : lw_okq (⟨"OneJohn$Reader", "readQuarrel", "(LOneJohn$Text;)Z"⟩, 6) := ⟨⟨by decide +kernel, by decide +kernel⟩, List.mem_of_getElem? (i := 41) (by decide +kernel), List.mem_of_getElem? (i := 322) (by decide +kernel), List.mem_of_getElem? (i := 323) (by decide +kernel)⟩
theorem lw_p8 : lw_okq (⟨"OneJohn$Reader", "readLaws", "(LOneJohn$Text;)Z"⟩, 6) := ⟨⟨by decide +kernel, by decide +kernel⟩, List.mem_of_getElem? (i := 41) (by decide +kernel), List.mem_of_getElem? (i := 326) (by decide +kernel), List.mem_of_getElem? (i := 327) (by decide +kernel)⟩
theorem lw_p9 : lw_okq (⟨"OneJohn$Land", "sayers", "(II)I"⟩, 6) := ⟨⟨by decide +kernel, by decide +kernel⟩, List.mem_of_getElem? (i := 47) (by decide +kernel), List.mem_of_getElem? (i := 422) (by decide +kernel), List.mem_of_getElem? (i := 423) (by decide +kernel)⟩
theorem lw_p10 : lw_okq (⟨"OneJohn$Land", "votes", "(IIII)I"⟩, 6) := ⟨⟨by decide +kernel, by decide +kernel⟩, List.mem_of_getElem? (i := 47) (by decide +kernel), List.mem_of_getElem? (i := 426) (by decide +kernel), List.mem_of_getElem? (i := 427) (by decide +kernel)⟩
theorem lw_p11 : lw_okq (⟨"OneJohn$Renaming", "nameFrom", "(LOneJohn$Land;II)V"⟩, 3) := ⟨⟨by decide +kernel, by decide +kernel⟩, List.mem_of_getElem? (i := 190) (by decide +kernel), List.mem_of_getElem? (i := 525) (by decide +kernel), List.mem_of_getElem? (i := 526) (by decide +kernel)⟩
theorem lw_p12 : lw_okq (⟨"OneJohn$Renaming", "isFree", "(LOneJohn$Land;II)Z"⟩, 3) := ⟨⟨by decide +kernel, by decide +kernel⟩, List.mem_of_getElem? (i := 190) (by decide +kernel), List.mem_of_getElem? (i := 530) (by decide +kernel), List.mem_of_getElem? (i := 531) (by decide +kernel)⟩
theorem lw_p13 : lw_okq (⟨"OneJohn", "allIsSo", "(I)Z"⟩, 11) := ⟨⟨by decide +kernel, by decide +kernel⟩, List.mem_of_getElem? (i := 15) (by decide +kernel), List.mem_of_getElem? (i := 574) (by decide +kernel), List.mem_of_getElem? (i := 575) (by decide +kernel)⟩
theorem lw_p14 : lw_okq (⟨"OneJohn$Wedding", "pairFrom", "(LOneJohn$Land;II)V"⟩, 3) := ⟨⟨by decide +kernel, by decide +kernel⟩, List.mem_of_getElem? (i := 208) (by decide +kernel), List.mem_of_getElem? (i := 590) (by decide +kernel), List.mem_of_getElem? (i := 591) (by decide +kernel)⟩
theorem lw_p15 : lw_okq (⟨"OneJohn", "christenings", "(II)I"⟩, 11) := ⟨⟨by decide +kernel, by decide +kernel⟩, List.mem_of_getElem? (i := 15) (by decide +kernel), List.mem_of_getElem? (i := 603) (by decide +kernel), List.mem_of_getElem? (i := 604) (by decide +kernel)⟩
def lw_privs_1 : List (MethodName × Nat) := [(⟨"OneJohn$Reader", "nextToken", "(LOneJohn$Text;)V"⟩, 6), (⟨"OneJohn$Reader", "takeNumber", "(LOneJohn$Text;)V"⟩, 6), (⟨"OneJohn$Reader", "readItem", "(LOneJohn$Text;I)Z"⟩, 6), (⟨"OneJohn$Reader", "readNames", "(LOneJohn$Text;)Z"⟩, 6), (⟨"OneJohn$Reader", "readNumber", "(LOneJohn$Text;II)Z"⟩, 6), (⟨"OneJohn$Reader", "isEnded", "(LOneJohn$Text;)Z"⟩, 6), (⟨"OneJohn$Reader", "readPerson", "(LOneJohn$Text;)Z"⟩, 6), (⟨"OneJohn$Reader", "readQuarrel", "(LOneJohn$Text;)Z"⟩, 6), (⟨"OneJohn$Reader", "readLaws", "(LOneJohn$Text;)Z"⟩, 6), (⟨"OneJohn$Land", "sayers", "(II)I"⟩, 6), (⟨"OneJohn$Land", "votes", "(IIII)I"⟩, 6), (⟨"OneJohn$Renaming", "nameFrom", "(LOneJohn$Land;II)V"⟩, 3), (⟨"OneJohn$Renaming", "isFree", "(LOneJohn$Land;II)Z"⟩, 3), (⟨"OneJohn", "allIsSo", "(I)Z"⟩, 11), (⟨"OneJohn$Wedding", "pairFrom", "(LOneJohn$Land;II)V"⟩, 3), (⟨"OneJohn", "christenings", "(II)I"⟩, 11)]
theorem lw_r1 : ∀ q ∈ lw_privs_1, lw_okq q := List.forall_mem_cons.mpr ⟨lw_p0, List.forall_mem_cons.mpr ⟨lw_p1, List.forall_mem_cons.mpr ⟨lw_p2, List.forall_mem_cons.mpr ⟨lw_p3, List.forall_mem_cons.mpr ⟨lw_p4, List.forall_mem_cons.mpr ⟨lw_p5, List.forall_mem_cons.mpr ⟨lw_p6, List.forall_mem_cons.mpr ⟨lw_p7, List.forall_mem_cons.mpr ⟨lw_p8, List.forall_mem_cons.mpr ⟨lw_p9, List.forall_mem_cons.mpr ⟨lw_p10, List.forall_mem_cons.mpr ⟨lw_p11, List.forall_mem_cons.mpr ⟨lw_p12, List.forall_mem_cons.mpr ⟨lw_p13, List.forall_mem_cons.mpr ⟨lw_p14, List.forall_mem_cons.mpr ⟨lw_p15, fun _ h => absurd h List.not_mem_nil⟩⟩⟩⟩⟩⟩⟩⟩⟩⟩⟩⟩⟩⟩⟩⟩
theorem lw_p16 : lw_okq (⟨"OneJohn", "rateAs", "(II)I"⟩, 11) := ⟨⟨by decide +kernel, by decide +kernel⟩, List.mem_of_getElem? (i := 15) (by decide +kernel), List.mem_of_getElem? (i := 618) (by decide +kernel), List.mem_of_getElem? (i := 619) (by decide +kernel)⟩
theorem lw_p17 : lw_okq (⟨"OneJohnModel", "advances", "()V"⟩, 29) := ⟨⟨by decide +kernel, by decide +kernel⟩, List.mem_of_getElem? (i := 641) (by decide +kernel), List.mem_of_getElem? (i := 750) (by decide +kernel), List.mem_of_getElem? (i := 751) (by decide +kernel)⟩
theorem lw_p18 : lw_okq (⟨"OneJohnModel", "letterAt", "(I)I"⟩, 29) := ⟨⟨by decide +kernel, by decide +kernel⟩, List.mem_of_getElem? (i := 641) (by decide +kernel), List.mem_of_getElem? (i := 754) (by decide +kernel), List.mem_of_getElem? (i := 755) (by decide +kernel)⟩
theorem lw_p19 : lw_okq (⟨"OneJohnModel", "isWell", "()Z"⟩, 29) := ⟨⟨by decide +kernel, by decide +kernel⟩, List.mem_of_getElem? (i := 641) (by decide +kernel), List.mem_of_getElem? (i := 758) (by decide +kernel), List.mem_of_getElem? (i := 759) (by decide +kernel)⟩
theorem lw_p20 : lw_okq (⟨"OneJohnModel", "mayBegin", "(I)Z"⟩, 29) := ⟨⟨by decide +kernel, by decide +kernel⟩, List.mem_of_getElem? (i := 641) (by decide +kernel), List.mem_of_getElem? (i := 762) (by decide +kernel), List.mem_of_getElem? (i := 763) (by decide +kernel)⟩
theorem lw_p21 : lw_okq (⟨"OneJohnModel", "takes", "(Z)I"⟩, 29) := ⟨⟨by decide +kernel, by decide +kernel⟩, List.mem_of_getElem? (i := 641) (by decide +kernel), List.mem_of_getElem? (i := 766) (by decide +kernel), List.mem_of_getElem? (i := 767) (by decide +kernel)⟩
theorem lw_p22 : lw_okq (⟨"OneJohnModel", "readsItem", "(I)V"⟩, 29) := ⟨⟨by decide +kernel, by decide +kernel⟩, List.mem_of_getElem? (i := 641) (by decide +kernel), List.mem_of_getElem? (i := 770) (by decide +kernel), List.mem_of_getElem? (i := 771) (by decide +kernel)⟩
theorem lw_p23 : lw_okq (⟨"OneJohnModel", "number", "(II)I"⟩, 29) := ⟨⟨by decide +kernel, by decide +kernel⟩, List.mem_of_getElem? (i := 641) (by decide +kernel), List.mem_of_getElem? (i := 774) (by decide +kernel), List.mem_of_getElem? (i := 775) (by decide +kernel)⟩
theorem lw_p24 : lw_okq (⟨"OneJohnModel", "settles", "()V"⟩, 29) := ⟨⟨by decide +kernel, by decide +kernel⟩, List.mem_of_getElem? (i := 641) (by decide +kernel), List.mem_of_getElem? (i := 778) (by decide +kernel), List.mem_of_getElem? (i := 779) (by decide +kernel)⟩
theorem lw_p25 : lw_okq (⟨"OneJohnModel", "isPerson", "(I)Z"⟩, 29) := ⟨⟨by decide +kernel, by decide +kernel⟩, List.mem_of_getElem? (i := 641) (by decide +kernel), List.mem_of_getElem? (i := 786) (by decide +kernel), List.mem_of_getElem? (i := 787) (by decide +kernel)⟩
theorem lw_p26 : lw_okq (⟨"OneJohnModel", "limps", "([II)Z"⟩, 29) := ⟨⟨by decide +kernel, by decide +kernel⟩, List.mem_of_getElem? (i := 641) (by decide +kernel), List.mem_of_getElem? (i := 790) (by decide +kernel), List.mem_of_getElem? (i := 791) (by decide +kernel)⟩
theorem lw_p27 : lw_okq (⟨"OneJohnModel", "peopleOf", "([II)I"⟩, 29) := ⟨⟨by decide +kernel, by decide +kernel⟩, List.mem_of_getElem? (i := 641) (by decide +kernel), List.mem_of_getElem? (i := 797) (by decide +kernel), List.mem_of_getElem? (i := 798) (by decide +kernel)⟩
theorem lw_p28 : lw_okq (⟨"OneJohnModel", "fame", "([II)I"⟩, 29) := ⟨⟨by decide +kernel, by decide +kernel⟩, List.mem_of_getElem? (i := 641) (by decide +kernel), List.mem_of_getElem? (i := 801) (by decide +kernel), List.mem_of_getElem? (i := 802) (by decide +kernel)⟩
theorem lw_p29 : lw_okq (⟨"OneJohnModel", "sumOf", "([III)I"⟩, 29) := ⟨⟨by decide +kernel, by decide +kernel⟩, List.mem_of_getElem? (i := 641) (by decide +kernel), List.mem_of_getElem? (i := 805) (by decide +kernel), List.mem_of_getElem? (i := 806) (by decide +kernel)⟩
theorem lw_p30 : lw_okq (⟨"OneJohnModel", "tax", "([II)I"⟩, 29) := ⟨⟨by decide +kernel, by decide +kernel⟩, List.mem_of_getElem? (i := 641) (by decide +kernel), List.mem_of_getElem? (i := 809) (by decide +kernel), List.mem_of_getElem? (i := 810) (by decide +kernel)⟩
theorem lw_p31 : lw_okq (⟨"OneJohnModel", "isName", "(I)Z"⟩, 29) := ⟨⟨by decide +kernel, by decide +kernel⟩, List.mem_of_getElem? (i := 641) (by decide +kernel), List.mem_of_getElem? (i := 824) (by decide +kernel), List.mem_of_getElem? (i := 825) (by decide +kernel)⟩
def lw_privs_2 : List (MethodName × Nat) := [(⟨"OneJohn", "rateAs", "(II)I"⟩, 11), (⟨"OneJohnModel", "advances", "()V"⟩, 29), (⟨"OneJohnModel", "letterAt", "(I)I"⟩, 29), (⟨"OneJohnModel", "isWell", "()Z"⟩, 29), (⟨"OneJohnModel", "mayBegin", "(I)Z"⟩, 29), (⟨"OneJohnModel", "takes", "(Z)I"⟩, 29), (⟨"OneJohnModel", "readsItem", "(I)V"⟩, 29), (⟨"OneJohnModel", "number", "(II)I"⟩, 29), (⟨"OneJohnModel", "settles", "()V"⟩, 29), (⟨"OneJohnModel", "isPerson", "(I)Z"⟩, 29), (⟨"OneJohnModel", "limps", "([II)Z"⟩, 29), (⟨"OneJohnModel", "peopleOf", "([II)I"⟩, 29), (⟨"OneJohnModel", "fame", "([II)I"⟩, 29), (⟨"OneJohnModel", "sumOf", "([III)I"⟩, 29), (⟨"OneJohnModel", "tax", "([II)I"⟩, 29), (⟨"OneJohnModel", "isName", "(I)Z"⟩, 29)]
theorem lw_r2 : ∀ q ∈ lw_privs_2, lw_okq q := List.forall_mem_cons.mpr ⟨lw_p16, List.forall_mem_cons.mpr ⟨lw_p17, List.forall_mem_cons.mpr ⟨lw_p18, List.forall_mem_cons.mpr ⟨lw_p19, List.forall_mem_cons.mpr ⟨lw_p20, List.forall_mem_cons.mpr ⟨lw_p21, List.forall_mem_cons.mpr ⟨lw_p22, List.forall_mem_cons.mpr ⟨lw_p23, List.forall_mem_cons.mpr ⟨lw_p24, List.forall_mem_cons.mpr ⟨lw_p25, List.forall_mem_cons.mpr ⟨lw_p26, List.forall_mem_cons.mpr ⟨lw_p27, List.forall_mem_cons.mpr ⟨lw_p28, List.forall_mem_cons.mpr ⟨lw_p29, List.forall_mem_cons.mpr ⟨lw_p30, List.forall_mem_cons.mpr ⟨lw_p31, fun _ h => absurd h List.not_mem_nil⟩⟩⟩⟩⟩⟩⟩⟩⟩⟩⟩⟩⟩⟩⟩⟩
theorem lw_p32 : lw_okq (⟨"OneJohnModel", "everybody", "()I"⟩, 29) := ⟨⟨by decide +kernel, by decide +kernel⟩, List.mem_of_getElem? (i := 641) (by decide +kernel), List.mem_of_getElem? (i := 838) (by decide +kernel), List.mem_of_getElem? (i := 839) (by decide +kernel)⟩
theorem lw_p33 : lw_okq (⟨"OneJohnModel", "voices", "([IIII)I"⟩, 29) := ⟨⟨by decide +kernel, by decide +kernel⟩, List.mem_of_getElem? (i := 641) (by decide +kernel), List.mem_of_getElem? (i := 842) (by decide +kernel), List.mem_of_getElem? (i := 843) (by decide +kernel)⟩
theorem lw_p34 : lw_okq (⟨"OneJohnModel", "leadOf", "(II)I"⟩, 29) := ⟨⟨by decide +kernel, by decide +kernel⟩, List.mem_of_getElem? (i := 641) (by decide +kernel), List.mem_of_getElem? (i := 846) (by decide +kernel), List.mem_of_getElem? (i := 847) (by decide +kernel)⟩
theorem lw_p35 : lw_okq (⟨"OneJohnModel", "passes", "([III)Z"⟩, 29) := ⟨⟨by decide +kernel, by decide +kernel⟩, List.mem_of_getElem? (i := 641) (by decide +kernel), List.mem_of_getElem? (i := 850) (by decide +kernel), List.mem_of_getElem? (i := 851) (by decide +kernel)⟩
theorem lw_p36 : lw_okq (⟨"OneJohnModel", "swayOf", "(I)I"⟩, 29) := ⟨⟨by decide +kernel, by decide +kernel⟩, List.mem_of_getElem? (i := 641) (by decide +kernel), List.mem_of_getElem? (i := 854) (by decide +kernel), List.mem_of_getElem? (i := 855) (by decide +kernel)⟩
theorem lw_p37 : lw_okq (⟨"OneJohnModel", "limping", "()I"⟩, 29) := ⟨⟨by decide +kernel, by decide +kernel⟩, List.mem_of_getElem? (i := 641) (by decide +kernel), List.mem_of_getElem? (i := 862) (by decide +kernel), List.mem_of_getElem? (i := 863) (by decide +kernel)⟩
theorem lw_p38 : lw_okq (⟨"OneJohnModel", "badOnes", "()I"⟩, 29) := ⟨⟨by decide +kernel, by decide +kernel⟩, List.mem_of_getElem? (i := 641) (by decide +kernel), List.mem_of_getElem? (i := 866) (by decide +kernel), List.mem_of_getElem? (i := 867) (by decide +kernel)⟩
theorem lw_p39 : lw_okq (⟨"OneJohnModel", "alone", "()I"⟩, 29) := ⟨⟨by decide +kernel, by decide +kernel⟩, List.mem_of_getElem? (i := 641) (by decide +kernel), List.mem_of_getElem? (i := 870) (by decide +kernel), List.mem_of_getElem? (i := 871) (by decide +kernel)⟩
theorem lw_p40 : lw_okq (⟨"OneJohnModel", "restless", "()I"⟩, 29) := ⟨⟨by decide +kernel, by decide +kernel⟩, List.mem_of_getElem? (i := 641) (by decide +kernel), List.mem_of_getElem? (i := 874) (by decide +kernel), List.mem_of_getElem? (i := 875) (by decide +kernel)⟩
theorem lw_p41 : lw_okq (⟨"OneJohnModel", "cheapestOf", "(I)I"⟩, 29) := ⟨⟨by decide +kernel, by decide +kernel⟩, List.mem_of_getElem? (i := 641) (by decide +kernel), List.mem_of_getElem? (i := 878) (by decide +kernel), List.mem_of_getElem? (i := 879) (by decide +kernel)⟩
theorem lw_p42 : lw_okq (⟨"OneJohnModel", "taxBy", "(II)I"⟩, 29) := ⟨⟨by decide +kernel, by decide +kernel⟩, List.mem_of_getElem? (i := 641) (by decide +kernel), List.mem_of_getElem? (i := 882) (by decide +kernel), List.mem_of_getElem? (i := 883) (by decide +kernel)⟩
theorem lw_p43 : lw_okq (⟨"OneJohnModel", "asNow", "()V"⟩, 29) := ⟨⟨by decide +kernel, by decide +kernel⟩, List.mem_of_getElem? (i := 641) (by decide +kernel), List.mem_of_getElem? (i := 886) (by decide +kernel), List.mem_of_getElem? (i := 887) (by decide +kernel)⟩
theorem lw_p44 : lw_okq (⟨"OneJohnModel", "notes", "()V"⟩, 29) := ⟨⟨by decide +kernel, by decide +kernel⟩, List.mem_of_getElem? (i := 641) (by decide +kernel), List.mem_of_getElem? (i := 894) (by decide +kernel), List.mem_of_getElem? (i := 895) (by decide +kernel)⟩
theorem lw_p45 : lw_okq (⟨"OneJohnModel", "renamedBy", "(I)I"⟩, 29) := ⟨⟨by decide +kernel, by decide +kernel⟩, List.mem_of_getElem? (i := 641) (by decide +kernel), List.mem_of_getElem? (i := 928) (by decide +kernel), List.mem_of_getElem? (i := 929) (by decide +kernel)⟩
theorem lw_p46 : lw_okq (⟨"OneJohnModel", "isAsTold", "()Z"⟩, 29) := ⟨⟨by decide +kernel, by decide +kernel⟩, List.mem_of_getElem? (i := 641) (by decide +kernel), List.mem_of_getElem? (i := 952) (by decide +kernel), List.mem_of_getElem? (i := 953) (by decide +kernel)⟩
theorem lw_p47 : lw_okq (⟨"OneJohnModel", "isAsRecorded", "()Z"⟩, 29) := ⟨⟨by decide +kernel, by decide +kernel⟩, List.mem_of_getElem? (i := 641) (by decide +kernel), List.mem_of_getElem? (i := 960) (by decide +kernel), List.mem_of_getElem? (i := 961) (by decide +kernel)⟩
def lw_privs_3 : List (MethodName × Nat) := [(⟨"OneJohnModel", "everybody", "()I"⟩, 29), (⟨"OneJohnModel", "voices", "([IIII)I"⟩, 29), (⟨"OneJohnModel", "leadOf", "(II)I"⟩, 29), (⟨"OneJohnModel", "passes", "([III)Z"⟩, 29), (⟨"OneJohnModel", "swayOf", "(I)I"⟩, 29), (⟨"OneJohnModel", "limping", "()I"⟩, 29), (⟨"OneJohnModel", "badOnes", "()I"⟩, 29), (⟨"OneJohnModel", "alone", "()I"⟩, 29), (⟨"OneJohnModel", "restless", "()I"⟩, 29), (⟨"OneJohnModel", "cheapestOf", "(I)I"⟩, 29), (⟨"OneJohnModel", "taxBy", "(II)I"⟩, 29), (⟨"OneJohnModel", "asNow", "()V"⟩, 29), (⟨"OneJohnModel", "notes", "()V"⟩, 29), (⟨"OneJohnModel", "renamedBy", "(I)I"⟩, 29), (⟨"OneJohnModel", "isAsTold", "()Z"⟩, 29), (⟨"OneJohnModel", "isAsRecorded", "()Z"⟩, 29)]
theorem lw_r3 : ∀ q ∈ lw_privs_3, lw_okq q := List.forall_mem_cons.mpr ⟨lw_p32, List.forall_mem_cons.mpr ⟨lw_p33, List.forall_mem_cons.mpr ⟨lw_p34, List.forall_mem_cons.mpr ⟨lw_p35, List.forall_mem_cons.mpr ⟨lw_p36, List.forall_mem_cons.mpr ⟨lw_p37, List.forall_mem_cons.mpr ⟨lw_p38, List.forall_mem_cons.mpr ⟨lw_p39, List.forall_mem_cons.mpr ⟨lw_p40, List.forall_mem_cons.mpr ⟨lw_p41, List.forall_mem_cons.mpr ⟨lw_p42, List.forall_mem_cons.mpr ⟨lw_p43, List.forall_mem_cons.mpr ⟨lw_p44, List.forall_mem_cons.mpr ⟨lw_p45, List.forall_mem_cons.mpr ⟨lw_p46, List.forall_mem_cons.mpr ⟨lw_p47, fun _ h => absurd h List.not_mem_nil⟩⟩⟩⟩⟩⟩⟩⟩⟩⟩⟩⟩⟩⟩⟩⟩
theorem lw_p48 : lw_okq (⟨"OneJohnModel", "pairs", "()V"⟩, 29) := ⟨⟨by decide +kernel, by decide +kernel⟩, List.mem_of_getElem? (i := 641) (by decide +kernel), List.mem_of_getElem? (i := 968) (by decide +kernel), List.mem_of_getElem? (i := 969) (by decide +kernel)⟩
theorem lw_p49 : lw_okq (⟨"OneJohnModel", "mayMarry", "(II)Z"⟩, 29) := ⟨⟨by decide +kernel, by decide +kernel⟩, List.mem_of_getElem? (i := 641) (by decide +kernel), List.mem_of_getElem? (i := 972) (by decide +kernel), List.mem_of_getElem? (i := 973) (by decide +kernel)⟩
def lw_privs_4 : List (MethodName × Nat) := [(⟨"OneJohnModel", "pairs", "()V"⟩, 29), (⟨"OneJohnModel", "mayMarry", "(II)Z"⟩, 29)]
theorem lw_r4 : ∀ q ∈ lw_privs_4, lw_okq q := List.forall_mem_cons.mpr ⟨lw_p48, List.forall_mem_cons.mpr ⟨lw_p49, fun _ h => absurd h List.not_mem_nil⟩⟩
def lw_privs : List (MethodName × Nat) := lw_privs_1 ++ (lw_privs_2 ++ (lw_privs_3 ++ (lw_privs_4)))
def lw_tbl : List Cond := k2_sels lw_privs ++ tables_1
theorem lw_privs_ok : ∀ q ∈ lw_privs, lw_okq q := by
  show ∀ q ∈ lw_privs_1 ++ (lw_privs_2 ++ (lw_privs_3 ++ (lw_privs_4))), lw_okq q
  exact List.forall_mem_append.mpr ⟨lw_r1, List.forall_mem_append.mpr ⟨lw_r2, List.forall_mem_append.mpr ⟨lw_r3, lw_r4⟩⟩⟩
end
section
/-! ===== BEGIN words of one list among another's, by their places ===== -/
theorem goodIn_r {big : List Cond} (ws : List Cond) (ps : List Nat) (hp : ws = ps.filterMap (fun i => big[i]?)) (h : ws.all goodWord = true) : GoodIn big ws := by
  intro w hw
  have h1 := List.all_eq_true.mp h w hw
  rw [hp] at hw
  obtain ⟨i, -, hi⟩ := List.mem_filterMap.mp hw
  have hm : w ∈ big := by first | exact List.mem_of_getElem? hi | exact List.getElem?_mem hi
  exact ⟨hm, good_of_word h1⟩
theorem goodIn_app {big a b : List Cond} (ha : GoodIn big a) (hb : GoodIn big b) : GoodIn big (a ++ b) := fun w h => (List.mem_append.mp h).elim (ha w) (hb w)
theorem goodIn_ca {big a b : List Cond} {c : Cond} (ha : GoodIn big (c :: a)) (hb : GoodIn big b) : GoodIn big (c :: (a ++ b)) := fun w h => (List.mem_cons.mp h).elim (fun e => ha w (List.mem_cons.mpr (Or.inl e))) (fun h => (List.mem_append.mp h).elim (fun h => ha w (List.mem_cons.mpr (Or.inr h))) (hb w))
theorem goodIn_sub {big ws : List Cond} (hm : ∀ w ∈ ws, w ∈ big) (h : ws.all goodWord = true) : GoodIn big ws := fun w hw => ⟨hm w hw, good_of_word (List.all_eq_true.mp h w hw)⟩
/-! ===== END ===== -/

/-! ===== BEGIN printed: names, fields, word lists, decode rows ===== -/
def RX0 : String := "OneJohn$Claims"
def TX0 : u_T := fun k => match k with
  | 0 => ("OneJohn$Claims", "subjects", "[I", true)
  | 1 => ("OneJohn$Claims", "answers", "[I", true)
  | _ => ("OneJohn$Claims", "size", "I", false)
def tyX0 : Nat → FieldType := fun k => match k with
  | 0 => .array .int
  | 1 => .array .int
  | _ => .int
abbrev wsX00 : List Cond := u_ws RX0 TX0 3
theorem nmX0 : ∀ a, a < 3 → ∀ b, b < 3 → a ≠ b → (TX0 a).2.1 ≠ (TX0 b).2.1 := by decide +kernel
theorem tyX0_ok : ∀ k, k < 3 → parseFieldDescriptor (TX0 k).2.2.1 = some (tyX0 k) := by decide +kernel
abbrev cX0_init : ByteArray := prog_2_method_1_code
def yX0_init : MethodName := ⟨RX0, "<init>", "()V"⟩
abbrev cX0_add : ByteArray := prog_2_method_2_code
def yX0_add : MethodName := ⟨RX0, "add", "(II)I"⟩
abbrev cX0_agree : ByteArray := prog_2_method_3_code
def yX0_agree : MethodName := ⟨RX0, "agree", "(I)Z"⟩
def RX1 : String := "OneJohn$Land"
def TX1 : u_T := fun k => match k with
  | 0 => ("OneJohn$Land", "favours", "[I", true)
  | 1 => ("OneJohn$Land", "foes", "[I", true)
  | 2 => ("OneJohn$Land", "due", "[I", true)
  | 3 => ("OneJohn$Land", "now", "LOneJohn$Now;", true)
  | 4 => ("OneJohn$Land", "nameCount", "I", false)
  | _ => ("OneJohn$Land", "people", "I", false)
def tyX1 : Nat → FieldType := fun k => match k with
  | 0 => .array .int
  | 1 => .array .int
  | 2 => .array .int
  | 3 => .object "OneJohn$Now"
  | 4 => .int
  | _ => .int
abbrev wsX10 : List Cond := u_ws RX1 TX1 6
theorem nmX1 : ∀ a, a < 6 → ∀ b, b < 6 → a ≠ b → (TX1 a).2.1 ≠ (TX1 b).2.1 := by decide +kernel
theorem tyX1_ok : ∀ k, k < 6 → parseFieldDescriptor (TX1 k).2.2.1 = some (tyX1 k) := by decide +kernel
abbrev cX1_init : ByteArray := prog_3_method_1_code
def yX1_init : MethodName := ⟨RX1, "<init>", "()V"⟩
abbrev cX1_empty : ByteArray := prog_3_method_2_code
def yX1_empty : MethodName := ⟨RX1, "empty", "()V"⟩
abbrev cX1_take : ByteArray := prog_3_method_3_code
def yX1_take : MethodName := ⟨RX1, "take", "(LOneJohn$Land;)V"⟩
abbrev cX1_addPerson : ByteArray := prog_3_method_4_code
def yX1_addPerson : MethodName := ⟨RX1, "addPerson", "(III)V"⟩
abbrev cX1_hasPerson : ByteArray := prog_3_method_5_code
def yX1_hasPerson : MethodName := ⟨RX1, "hasPerson", "(I)Z"⟩
abbrev cX1_hasName : ByteArray := prog_3_method_6_code
def yX1_hasName : MethodName := ⟨RX1, "hasName", "(I)Z"⟩
abbrev cX1_quarrel : ByteArray := prog_3_method_7_code
def yX1_quarrel : MethodName := ⟨RX1, "quarrel", "(II)Z"⟩
abbrev cX1_bearers : ByteArray := prog_3_method_8_code
def yX1_bearers : MethodName := ⟨RX1, "bearers", "(I)I"⟩
abbrev cX1_wealthOf : ByteArray := prog_3_method_9_code
def yX1_wealthOf : MethodName := ⟨RX1, "wealthOf", "(I)I"⟩
abbrev cX1_limping : ByteArray := prog_3_method_10_code
def yX1_limping : MethodName := ⟨RX1, "limping", "()I"⟩
abbrev cX1_limpingIf : ByteArray := prog_3_method_11_code
def yX1_limpingIf : MethodName := ⟨RX1, "limpingIf", "(II)I"⟩
abbrev cX1_fame : ByteArray := prog_3_method_12_code
def yX1_fame : MethodName := ⟨RX1, "fame", "(I)I"⟩
abbrev cX1_tax : ByteArray := prog_3_method_13_code
def yX1_tax : MethodName := ⟨RX1, "tax", "(I)I"⟩
abbrev cX1_taxIfNamed : ByteArray := prog_3_method_14_code
def yX1_taxIfNamed : MethodName := ⟨RX1, "taxIfNamed", "(II)I"⟩
abbrev cX1_payTax : ByteArray := prog_3_method_15_code
def yX1_payTax : MethodName := ⟨RX1, "payTax", "()I"⟩
abbrev cX1_cheapestName : ByteArray := prog_3_method_16_code
def yX1_cheapestName : MethodName := ⟨RX1, "cheapestName", "(I)I"⟩
abbrev cX1_restless : ByteArray := prog_3_method_17_code
def yX1_restless : MethodName := ⟨RX1, "restless", "()I"⟩
abbrev cX1_alone : ByteArray := prog_3_method_18_code
def yX1_alone : MethodName := ⟨RX1, "alone", "()I"⟩
abbrev cX1_badOnes : ByteArray := prog_3_method_19_code
def yX1_badOnes : MethodName := ⟨RX1, "badOnes", "()I"⟩
abbrev cX1_sayers : ByteArray := prog_3_method_20_code
def yX1_sayers : MethodName := ⟨RX1, "sayers", "(II)I"⟩
abbrev cX1_votes : ByteArray := prog_3_method_21_code
def yX1_votes : MethodName := ⟨RX1, "votes", "(IIII)I"⟩
abbrev cX1_yes : ByteArray := prog_3_method_22_code
def yX1_yes : MethodName := ⟨RX1, "yes", "(III)I"⟩
abbrev cX1_no : ByteArray := prog_3_method_23_code
def yX1_no : MethodName := ⟨RX1, "no", "(III)I"⟩
abbrev cX1_passes : ByteArray := prog_3_method_24_code
def yX1_passes : MethodName := ⟨RX1, "passes", "(III)Z"⟩
abbrev cX1_passing : ByteArray := prog_3_method_25_code
def yX1_passing : MethodName := ⟨RX1, "passing", "(I)I"⟩
abbrev cX1_sway : ByteArray := prog_3_method_26_code
def yX1_sway : MethodName := ⟨RX1, "sway", "(I)I"⟩
def RX2 : String := "OneJohn$Now"
def TX2 : u_T := fun k => match k with
  | 0 => ("OneJohn$Now", "names", "[I", true)
  | 1 => ("OneJohn$Now", "wealth", "[I", true)
  | 2 => ("OneJohn$Now", "deeds", "[I", true)
  | 3 => ("OneJohn$Now", "hurt", "I", false)
  | 4 => ("OneJohn$Now", "laws", "I", false)
  | 5 => ("OneJohn$Now", "chest", "I", false)
  | _ => ("OneJohn$Now", "years", "I", false)
def tyX2 : Nat → FieldType := fun k => match k with
  | 0 => .array .int
  | 1 => .array .int
  | 2 => .array .int
  | 3 => .int
  | 4 => .int
  | 5 => .int
  | _ => .int
abbrev wsX20 : List Cond := u_ws RX2 TX2 7
theorem nmX2 : ∀ a, a < 7 → ∀ b, b < 7 → a ≠ b → (TX2 a).2.1 ≠ (TX2 b).2.1 := by decide +kernel
theorem tyX2_ok : ∀ k, k < 7 → parseFieldDescriptor (TX2 k).2.2.1 = some (tyX2 k) := by decide +kernel
abbrev cX2_init : ByteArray := prog_4_method_1_code
def yX2_init : MethodName := ⟨RX2, "<init>", "()V"⟩
abbrev cX2_take : ByteArray := prog_4_method_2_code
def yX2_take : MethodName := ⟨RX2, "take", "(LOneJohn$Now;)V"⟩
def RX3 : String := "OneJohn$Past"
def TX3 : u_T := fun k => match k with
  | 0 => ("OneJohn$Past", "rows", "[LOneJohn$Now;", true)
  | 1 => ("OneJohn$Past", "next", "I", false)
  | _ => ("OneJohn$Past", "size", "I", false)
def tyX3 : Nat → FieldType := fun k => match k with
  | 0 => .array (.object "OneJohn$Now")
  | 1 => .int
  | _ => .int
abbrev wsX30 : List Cond := u_ws RX3 TX3 3
theorem nmX3 : ∀ a, a < 3 → ∀ b, b < 3 → a ≠ b → (TX3 a).2.1 ≠ (TX3 b).2.1 := by decide +kernel
theorem tyX3_ok : ∀ k, k < 3 → parseFieldDescriptor (TX3 k).2.2.1 = some (tyX3 k) := by decide +kernel
abbrev cX3_init : ByteArray := prog_5_method_1_code
def yX3_init : MethodName := ⟨RX3, "<init>", "()V"⟩
abbrev cX3_remember : ByteArray := prog_5_method_2_code
def yX3_remember : MethodName := ⟨RX3, "remember", "(LOneJohn$Now;)V"⟩
abbrev cX3_recall : ByteArray := prog_5_method_3_code
def yX3_recall : MethodName := ⟨RX3, "recall", "(LOneJohn$Now;)V"⟩
def RX4 : String := "OneJohn$Reader"
def TX4 : u_T := fun k => match k with
  | 0 => ("OneJohn$Reader", "draft", "LOneJohn$Land;", true)
  | 1 => ("OneJohn$Reader", "place", "I", false)
  | 2 => ("OneJohn$Reader", "start", "I", false)
  | 3 => ("OneJohn$Reader", "token", "I", false)
  | 4 => ("OneJohn$Reader", "value", "I", false)
  | _ => ("OneJohn$Reader", "lawsTold", "Z", false)
def tyX4 : Nat → FieldType := fun k => match k with
  | 0 => .object "OneJohn$Land"
  | 1 => .int
  | 2 => .int
  | 3 => .int
  | 4 => .int
  | _ => .boolean
abbrev wsX40 : List Cond := u_ws RX4 TX4 6
theorem nmX4 : ∀ a, a < 6 → ∀ b, b < 6 → a ≠ b → (TX4 a).2.1 ≠ (TX4 b).2.1 := by decide +kernel
theorem tyX4_ok : ∀ k, k < 6 → parseFieldDescriptor (TX4 k).2.2.1 = some (tyX4 k) := by decide +kernel
abbrev cX4_init : ByteArray := prog_6_method_1_code
def yX4_init : MethodName := ⟨RX4, "<init>", "()V"⟩
abbrev cX4_read : ByteArray := prog_6_method_2_code
def yX4_read : MethodName := ⟨RX4, "read", "(LOneJohn$Text;)I"⟩
abbrev cX4_readItem : ByteArray := prog_6_method_3_code
def yX4_readItem : MethodName := ⟨RX4, "readItem", "(LOneJohn$Text;I)Z"⟩
abbrev cX4_readNames : ByteArray := prog_6_method_4_code
def yX4_readNames : MethodName := ⟨RX4, "readNames", "(LOneJohn$Text;)Z"⟩
abbrev cX4_readPerson : ByteArray := prog_6_method_5_code
def yX4_readPerson : MethodName := ⟨RX4, "readPerson", "(LOneJohn$Text;)Z"⟩
abbrev cX4_readQuarrel : ByteArray := prog_6_method_6_code
def yX4_readQuarrel : MethodName := ⟨RX4, "readQuarrel", "(LOneJohn$Text;)Z"⟩
abbrev cX4_readLaws : ByteArray := prog_6_method_7_code
def yX4_readLaws : MethodName := ⟨RX4, "readLaws", "(LOneJohn$Text;)Z"⟩
abbrev cX4_readNumber : ByteArray := prog_6_method_8_code
def yX4_readNumber : MethodName := ⟨RX4, "readNumber", "(LOneJohn$Text;II)Z"⟩
abbrev cX4_isEnded : ByteArray := prog_6_method_9_code
def yX4_isEnded : MethodName := ⟨RX4, "isEnded", "(LOneJohn$Text;)Z"⟩
abbrev cX4_nextToken : ByteArray := prog_6_method_10_code
def yX4_nextToken : MethodName := ⟨RX4, "nextToken", "(LOneJohn$Text;)V"⟩
abbrev cX4_takeNumber : ByteArray := prog_6_method_11_code
def yX4_takeNumber : MethodName := ⟨RX4, "takeNumber", "(LOneJohn$Text;)V"⟩
abbrev cX4_isDigit : ByteArray := prog_6_method_12_code
def yX4_isDigit : MethodName := ⟨RX4, "isDigit", "(I)Z"⟩
def RX5 : String := "OneJohn$Renaming"
def TX5 : u_T := fun k => match k with
  | 0 => ("OneJohn$Renaming", "way", "[I", true)
  | 1 => ("OneJohn$Renaming", "best", "[I", true)
  | _ => ("OneJohn$Renaming", "fewest", "I", false)
def tyX5 : Nat → FieldType := fun k => match k with
  | 0 => .array .int
  | 1 => .array .int
  | _ => .int
abbrev wsX50 : List Cond := u_ws RX5 TX5 3
theorem nmX5 : ∀ a, a < 3 → ∀ b, b < 3 → a ≠ b → (TX5 a).2.1 ≠ (TX5 b).2.1 := by decide +kernel
theorem tyX5_ok : ∀ k, k < 3 → parseFieldDescriptor (TX5 k).2.2.1 = some (tyX5 k) := by decide +kernel
abbrev cX5_init : ByteArray := prog_7_method_1_code
def yX5_init : MethodName := ⟨RX5, "<init>", "()V"⟩
abbrev cX5_search : ByteArray := prog_7_method_2_code
def yX5_search : MethodName := ⟨RX5, "search", "(LOneJohn$Land;)V"⟩
abbrev cX5_found : ByteArray := prog_7_method_3_code
def yX5_found : MethodName := ⟨RX5, "found", "()Z"⟩
abbrev cX5_nameFrom : ByteArray := prog_7_method_4_code
def yX5_nameFrom : MethodName := ⟨RX5, "nameFrom", "(LOneJohn$Land;II)V"⟩
abbrev cX5_isFree : ByteArray := prog_7_method_5_code
def yX5_isFree : MethodName := ⟨RX5, "isFree", "(LOneJohn$Land;II)Z"⟩
def RX6 : String := "OneJohn$Text"
def TX6 : u_T := fun k => match k with
  | 0 => ("OneJohn$Text", "letters", "[I", true)
  | _ => ("OneJohn$Text", "length", "I", false)
def tyX6 : Nat → FieldType := fun k => match k with
  | 0 => .array .int
  | _ => .int
abbrev wsX60 : List Cond := u_ws RX6 TX6 2
theorem nmX6 : ∀ a, a < 2 → ∀ b, b < 2 → a ≠ b → (TX6 a).2.1 ≠ (TX6 b).2.1 := by decide +kernel
theorem tyX6_ok : ∀ k, k < 2 → parseFieldDescriptor (TX6 k).2.2.1 = some (tyX6 k) := by decide +kernel
abbrev cX6_init : ByteArray := prog_8_method_1_code
def yX6_init : MethodName := ⟨RX6, "<init>", "()V"⟩
def RX7 : String := "OneJohn$Wedding"
def TX7 : u_T := fun k => match k with
  | 0 => ("OneJohn$Wedding", "way", "[I", true)
  | 1 => ("OneJohn$Wedding", "best", "[I", true)
  | _ => ("OneJohn$Wedding", "most", "I", false)
def tyX7 : Nat → FieldType := fun k => match k with
  | 0 => .array .int
  | 1 => .array .int
  | _ => .int
abbrev wsX70 : List Cond := u_ws RX7 TX7 3
theorem nmX7 : ∀ a, a < 3 → ∀ b, b < 3 → a ≠ b → (TX7 a).2.1 ≠ (TX7 b).2.1 := by decide +kernel
theorem tyX7_ok : ∀ k, k < 3 → parseFieldDescriptor (TX7 k).2.2.1 = some (tyX7 k) := by decide +kernel
abbrev cX7_init : ByteArray := prog_9_method_1_code
def yX7_init : MethodName := ⟨RX7, "<init>", "()V"⟩
abbrev cX7_search : ByteArray := prog_9_method_2_code
def yX7_search : MethodName := ⟨RX7, "search", "(LOneJohn$Land;)V"⟩
abbrev cX7_pairFrom : ByteArray := prog_9_method_3_code
def yX7_pairFrom : MethodName := ⟨RX7, "pairFrom", "(LOneJohn$Land;II)V"⟩
abbrev cX7_mayMarry : ByteArray := prog_9_method_4_code
def yX7_mayMarry : MethodName := ⟨RX7, "mayMarry", "(LOneJohn$Land;II)Z"⟩
def RX8 : String := "OneJohn"
def TX8 : u_T := fun k => match k with
  | 0 => ("OneJohn", "text", "LOneJohn$Text;", true)
  | 1 => ("OneJohn", "reader", "LOneJohn$Reader;", true)
  | 2 => ("OneJohn", "land", "LOneJohn$Land;", true)
  | 3 => ("OneJohn", "past", "LOneJohn$Past;", true)
  | 4 => ("OneJohn", "told", "LOneJohn$Claims;", true)
  | 5 => ("OneJohn", "records", "LOneJohn$Claims;", true)
  | 6 => ("OneJohn", "renaming", "LOneJohn$Renaming;", true)
  | 7 => ("OneJohn", "wedding", "LOneJohn$Wedding;", true)
  | 8 => ("OneJohn", "images", "[LOneJohn$Now;", true)
  | 9 => ("OneJohn", "kept", "[Z", true)
  | _ => ("OneJohn", "trace", "J", false)
def tyX8 : Nat → FieldType := fun k => match k with
  | 0 => .object "OneJohn$Text"
  | 1 => .object "OneJohn$Reader"
  | 2 => .object "OneJohn$Land"
  | 3 => .object "OneJohn$Past"
  | 4 => .object "OneJohn$Claims"
  | 5 => .object "OneJohn$Claims"
  | 6 => .object "OneJohn$Renaming"
  | 7 => .object "OneJohn$Wedding"
  | 8 => .array (.object "OneJohn$Now")
  | 9 => .array .boolean
  | _ => .long
abbrev wsX80 : List Cond := u_ws RX8 TX8 11
theorem nmX8 : ∀ a, a < 11 → ∀ b, b < 11 → a ≠ b → (TX8 a).2.1 ≠ (TX8 b).2.1 := by decide +kernel
theorem tyX8_ok : ∀ k, k < 11 → parseFieldDescriptor (TX8 k).2.2.1 = some (tyX8 k) := by decide +kernel
abbrev cX8_init : ByteArray := prog_1_method_1_code
def yX8_init : MethodName := ⟨RX8, "<init>", "()V"⟩
abbrev cX8_type : ByteArray := prog_1_method_2_code
def yX8_type : MethodName := ⟨RX8, "type", "(I)I"⟩
abbrev cX8_clear : ByteArray := prog_1_method_3_code
def yX8_clear : MethodName := ⟨RX8, "clear", "()I"⟩
abbrev cX8_republic : ByteArray := prog_1_method_4_code
def yX8_republic : MethodName := ⟨RX8, "republic", "()I"⟩
abbrev cX8_person : ByteArray := prog_1_method_5_code
def yX8_person : MethodName := ⟨RX8, "person", "(II)I"⟩
abbrev cX8_quarrels : ByteArray := prog_1_method_6_code
def yX8_quarrels : MethodName := ⟨RX8, "quarrels", "(I)I"⟩
abbrev cX8_name : ByteArray := prog_1_method_7_code
def yX8_name : MethodName := ⟨RX8, "name", "(II)I"⟩
abbrev cX8_bill : ByteArray := prog_1_method_8_code
def yX8_bill : MethodName := ⟨RX8, "bill", "(II)I"⟩
abbrev cX8_now : ByteArray := prog_1_method_9_code
def yX8_now : MethodName := ⟨RX8, "now", "(I)I"⟩
abbrev cX8_hurts : ByteArray := prog_1_method_10_code
def yX8_hurts : MethodName := ⟨RX8, "hurts", "(II)I"⟩
abbrev cX8_deeds : ByteArray := prog_1_method_11_code
def yX8_deeds : MethodName := ⟨RX8, "deeds", "(I)I"⟩
abbrev cX8_earns : ByteArray := prog_1_method_12_code
def yX8_earns : MethodName := ⟨RX8, "earns", "(II)I"⟩
abbrev cX8_names : ByteArray := prog_1_method_13_code
def yX8_names : MethodName := ⟨RX8, "names", "(II)I"⟩
abbrev cX8_laws : ByteArray := prog_1_method_14_code
def yX8_laws : MethodName := ⟨RX8, "laws", "(I)I"⟩
abbrev cX8_year : ByteArray := prog_1_method_15_code
def yX8_year : MethodName := ⟨RX8, "year", "()I"⟩
abbrev cX8_undo : ByteArray := prog_1_method_16_code
def yX8_undo : MethodName := ⟨RX8, "undo", "()I"⟩
abbrev cX8_apart : ByteArray := prog_1_method_17_code
def yX8_apart : MethodName := ⟨RX8, "apart", "(I)I"⟩
abbrev cX8_cheapest : ByteArray := prog_1_method_18_code
def yX8_cheapest : MethodName := ⟨RX8, "cheapest", "(I)I"⟩
abbrev cX8_tells : ByteArray := prog_1_method_19_code
def yX8_tells : MethodName := ⟨RX8, "tells", "(II)I"⟩
abbrev cX8_record : ByteArray := prog_1_method_20_code
def yX8_record : MethodName := ⟨RX8, "record", "(II)I"⟩
abbrev cX8_forget : ByteArray := prog_1_method_21_code
def yX8_forget : MethodName := ⟨RX8, "forget", "()I"⟩
abbrev cX8_who : ByteArray := prog_1_method_22_code
def yX8_who : MethodName := ⟨RX8, "who", "()I"⟩
abbrev cX8_which : ByteArray := prog_1_method_23_code
def yX8_which : MethodName := ⟨RX8, "which", "(I)I"⟩
abbrev cX8_allIsSo : ByteArray := prog_1_method_24_code
def yX8_allIsSo : MethodName := ⟨RX8, "allIsSo", "(I)Z"⟩
abbrev cX8_married : ByteArray := prog_1_method_25_code
def yX8_married : MethodName := ⟨RX8, "married", "(I)I"⟩
abbrev cX8_odds : ByteArray := prog_1_method_26_code
def yX8_odds : MethodName := ⟨RX8, "odds", "(IIII)I"⟩
abbrev cX8_christenings : ByteArray := prog_1_method_27_code
def yX8_christenings : MethodName := ⟨RX8, "christenings", "(II)I"⟩
abbrev cX8_rate : ByteArray := prog_1_method_28_code
def yX8_rate : MethodName := ⟨RX8, "rate", "(II)I"⟩
abbrev cX8_rateAs : ByteArray := prog_1_method_29_code
def yX8_rateAs : MethodName := ⟨RX8, "rateAs", "(II)I"⟩
abbrev cX8_keep : ByteArray := prog_1_method_30_code
def yX8_keep : MethodName := ⟨RX8, "keep", "(I)I"⟩
abbrev cX8_back : ByteArray := prog_1_method_31_code
def yX8_back : MethodName := ⟨RX8, "back", "(I)I"⟩
abbrev cX8_count : ByteArray := prog_1_method_32_code
def yX8_count : MethodName := ⟨RX8, "count", "(I)I"⟩
abbrev cX8_trace : ByteArray := prog_1_method_33_code
def yX8_trace : MethodName := ⟨RX8, "trace", "()J"⟩
abbrev cX8_within : ByteArray := prog_1_method_34_code
def yX8_within : MethodName := ⟨RX8, "within", "(III)Z"⟩
abbrev cX8_bit : ByteArray := prog_1_method_35_code
def yX8_bit : MethodName := ⟨RX8, "bit", "(II)I"⟩
abbrev cX8_inLeastTerms : ByteArray := prog_1_method_36_code
def yX8_inLeastTerms : MethodName := ⟨RX8, "inLeastTerms", "(II)I"⟩
abbrev cX8_commonDivisor : ByteArray := prog_1_method_37_code
def yX8_commonDivisor : MethodName := ⟨RX8, "commonDivisor", "(II)I"⟩
abbrev cX8_power : ByteArray := prog_1_method_38_code
def yX8_power : MethodName := ⟨RX8, "power", "(II)I"⟩
abbrev cX8_choices : ByteArray := prog_1_method_39_code
def yX8_choices : MethodName := ⟨RX8, "choices", "(II)I"⟩
def RX9 : String := "OneJohnModel"
def TX9 : u_T := fun k => match k with
  | 0 => ("OneJohnModel", "thrown", "I", false)
  | 1 => ("OneJohnModel", "trace", "J", false)
  | 2 => ("OneJohnModel", "text", "[I", true)
  | 3 => ("OneJohnModel", "typed", "I", false)
  | 4 => ("OneJohnModel", "next", "I", false)
  | 5 => ("OneJohnModel", "token", "I", false)
  | 6 => ("OneJohnModel", "place", "I", false)
  | 7 => ("OneJohnModel", "value", "I", false)
  | 8 => ("OneJohnModel", "fault", "I", false)
  | 9 => ("OneJohnModel", "many", "[I", true)
  | 10 => ("OneJohnModel", "name", "[I", true)
  | 11 => ("OneJohnModel", "wealth", "[I", true)
  | 12 => ("OneJohnModel", "bills", "[I", true)
  | 13 => ("OneJohnModel", "quarrel", "[I", true)
  | 14 => ("OneJohnModel", "isLawTold", "Z", false)
  | 15 => ("OneJohnModel", "s", "[I", true)
  | 16 => ("OneJohnModel", "w", "[I", true)
  | 17 => ("OneJohnModel", "kept", "[I", true)
  | 18 => ("OneJohnModel", "isKept", "[Z", true)
  | 19 => ("OneJohnModel", "undos", "[I", true)
  | 20 => ("OneJohnModel", "undoMany", "I", false)
  | 21 => ("OneJohnModel", "toldOf", "[I", true)
  | 22 => ("OneJohnModel", "toldIs", "[I", true)
  | 23 => ("OneJohnModel", "toldMany", "I", false)
  | 24 => ("OneJohnModel", "recordOf", "[I", true)
  | 25 => ("OneJohnModel", "recordIs", "[I", true)
  | 26 => ("OneJohnModel", "recordMany", "I", false)
  | 27 => ("OneJohnModel", "best", "[I", true)
  | _ => ("OneJohnModel", "twos", "[I", true)
def tyX9 : Nat → FieldType := fun k => match k with
  | 0 => .int
  | 1 => .long
  | 2 => .array .int
  | 3 => .int
  | 4 => .int
  | 5 => .int
  | 6 => .int
  | 7 => .int
  | 8 => .int
  | 9 => .array .int
  | 10 => .array .int
  | 11 => .array .int
  | 12 => .array .int
  | 13 => .array .int
  | 14 => .boolean
  | 15 => .array .int
  | 16 => .array .int
  | 17 => .array .int
  | 18 => .array .boolean
  | 19 => .array .int
  | 20 => .int
  | 21 => .array .int
  | 22 => .array .int
  | 23 => .int
  | 24 => .array .int
  | 25 => .array .int
  | 26 => .int
  | 27 => .array .int
  | _ => .array .int
abbrev wsX90 : List Cond := u_ws RX9 TX9 29
theorem nmX9 : ∀ a, a < 29 → ∀ b, b < 29 → a ≠ b → (TX9 a).2.1 ≠ (TX9 b).2.1 := by decide +kernel
theorem tyX9_ok : ∀ k, k < 29 → parseFieldDescriptor (TX9 k).2.2.1 = some (tyX9 k) := by decide +kernel
abbrev cX9_init : ByteArray := prog_11_method_1_code
def yX9_init : MethodName := ⟨RX9, "<init>", "()V"⟩
abbrev cX9_in : ByteArray := prog_11_method_3_code
def yX9_in : MethodName := ⟨RX9, "in", "(III)Z"⟩
abbrev cX9_ones : ByteArray := prog_11_method_4_code
def yX9_ones : MethodName := ⟨RX9, "ones", "(I)I"⟩
abbrev cX9_type : ByteArray := prog_11_method_5_code
def yX9_type : MethodName := ⟨RX9, "type", "(I)I"⟩
abbrev cX9_clear : ByteArray := prog_11_method_6_code
def yX9_clear : MethodName := ⟨RX9, "clear", "()I"⟩
abbrev cX9_letterAt : ByteArray := prog_11_method_7_code
def yX9_letterAt : MethodName := ⟨RX9, "letterAt", "(I)I"⟩
abbrev cX9_advances : ByteArray := prog_11_method_8_code
def yX9_advances : MethodName := ⟨RX9, "advances", "()V"⟩
abbrev cX9_isWell : ByteArray := prog_11_method_9_code
def yX9_isWell : MethodName := ⟨RX9, "isWell", "()Z"⟩
abbrev cX9_takes : ByteArray := prog_11_method_10_code
def yX9_takes : MethodName := ⟨RX9, "takes", "(Z)I"⟩
abbrev cX9_number : ByteArray := prog_11_method_11_code
def yX9_number : MethodName := ⟨RX9, "number", "(II)I"⟩
abbrev cX9_mayBegin : ByteArray := prog_11_method_12_code
def yX9_mayBegin : MethodName := ⟨RX9, "mayBegin", "(I)Z"⟩
abbrev cX9_readsItem : ByteArray := prog_11_method_13_code
def yX9_readsItem : MethodName := ⟨RX9, "readsItem", "(I)V"⟩
abbrev cX9_republic : ByteArray := prog_11_method_14_code
def yX9_republic : MethodName := ⟨RX9, "republic", "()I"⟩
abbrev cX9_settles : ByteArray := prog_11_method_15_code
def yX9_settles : MethodName := ⟨RX9, "settles", "()V"⟩
abbrev cX9_isPerson : ByteArray := prog_11_method_16_code
def yX9_isPerson : MethodName := ⟨RX9, "isPerson", "(I)Z"⟩
abbrev cX9_isName : ByteArray := prog_11_method_17_code
def yX9_isName : MethodName := ⟨RX9, "isName", "(I)Z"⟩
abbrev cX9_peopleOf : ByteArray := prog_11_method_18_code
def yX9_peopleOf : MethodName := ⟨RX9, "peopleOf", "([II)I"⟩
abbrev cX9_isLaw : ByteArray := prog_11_method_19_code
def yX9_isLaw : MethodName := ⟨RX9, "isLaw", "([II)Z"⟩
abbrev cX9_sumOf : ByteArray := prog_11_method_20_code
def yX9_sumOf : MethodName := ⟨RX9, "sumOf", "([III)I"⟩
abbrev cX9_limps : ByteArray := prog_11_method_21_code
def yX9_limps : MethodName := ⟨RX9, "limps", "([II)Z"⟩
abbrev cX9_fame : ByteArray := prog_11_method_22_code
def yX9_fame : MethodName := ⟨RX9, "fame", "([II)I"⟩
abbrev cX9_tax : ByteArray := prog_11_method_23_code
def yX9_tax : MethodName := ⟨RX9, "tax", "([II)I"⟩
abbrev cX9_leadOf : ByteArray := prog_11_method_24_code
def yX9_leadOf : MethodName := ⟨RX9, "leadOf", "(II)I"⟩
abbrev cX9_voices : ByteArray := prog_11_method_25_code
def yX9_voices : MethodName := ⟨RX9, "voices", "([IIII)I"⟩
abbrev cX9_passes : ByteArray := prog_11_method_26_code
def yX9_passes : MethodName := ⟨RX9, "passes", "([III)Z"⟩
abbrev cX9_everybody : ByteArray := prog_11_method_27_code
def yX9_everybody : MethodName := ⟨RX9, "everybody", "()I"⟩
abbrev cX9_person : ByteArray := prog_11_method_28_code
def yX9_person : MethodName := ⟨RX9, "person", "(II)I"⟩
abbrev cX9_quarrels : ByteArray := prog_11_method_29_code
def yX9_quarrels : MethodName := ⟨RX9, "quarrels", "(I)I"⟩
abbrev cX9_gcd : ByteArray := prog_11_method_30_code
def yX9_gcd : MethodName := ⟨RX9, "gcd", "(II)I"⟩
abbrev cX9_part : ByteArray := prog_11_method_31_code
def yX9_part : MethodName := ⟨RX9, "part", "(III)I"⟩
abbrev cX9_name : ByteArray := prog_11_method_32_code
def yX9_name : MethodName := ⟨RX9, "name", "(II)I"⟩
abbrev cX9_swayOf : ByteArray := prog_11_method_33_code
def yX9_swayOf : MethodName := ⟨RX9, "swayOf", "(I)I"⟩
abbrev cX9_bill : ByteArray := prog_11_method_34_code
def yX9_bill : MethodName := ⟨RX9, "bill", "(II)I"⟩
abbrev cX9_limping : ByteArray := prog_11_method_35_code
def yX9_limping : MethodName := ⟨RX9, "limping", "()I"⟩
abbrev cX9_badOnes : ByteArray := prog_11_method_36_code
def yX9_badOnes : MethodName := ⟨RX9, "badOnes", "()I"⟩
abbrev cX9_alone : ByteArray := prog_11_method_37_code
def yX9_alone : MethodName := ⟨RX9, "alone", "()I"⟩
abbrev cX9_restless : ByteArray := prog_11_method_38_code
def yX9_restless : MethodName := ⟨RX9, "restless", "()I"⟩
abbrev cX9_now : ByteArray := prog_11_method_39_code
def yX9_now : MethodName := ⟨RX9, "now", "(I)I"⟩
abbrev cX9_notes : ByteArray := prog_11_method_40_code
def yX9_notes : MethodName := ⟨RX9, "notes", "()V"⟩
abbrev cX9_hurts : ByteArray := prog_11_method_41_code
def yX9_hurts : MethodName := ⟨RX9, "hurts", "(II)I"⟩
abbrev cX9_deeds : ByteArray := prog_11_method_42_code
def yX9_deeds : MethodName := ⟨RX9, "deeds", "(I)I"⟩
abbrev cX9_earns : ByteArray := prog_11_method_43_code
def yX9_earns : MethodName := ⟨RX9, "earns", "(II)I"⟩
abbrev cX9_names : ByteArray := prog_11_method_44_code
def yX9_names : MethodName := ⟨RX9, "names", "(II)I"⟩
abbrev cX9_laws : ByteArray := prog_11_method_45_code
def yX9_laws : MethodName := ⟨RX9, "laws", "(I)I"⟩
abbrev cX9_year : ByteArray := prog_11_method_46_code
def yX9_year : MethodName := ⟨RX9, "year", "()I"⟩
abbrev cX9_undo : ByteArray := prog_11_method_47_code
def yX9_undo : MethodName := ⟨RX9, "undo", "()I"⟩
abbrev cX9_asNow : ByteArray := prog_11_method_48_code
def yX9_asNow : MethodName := ⟨RX9, "asNow", "()V"⟩
abbrev cX9_renamedBy : ByteArray := prog_11_method_49_code
def yX9_renamedBy : MethodName := ⟨RX9, "renamedBy", "(I)I"⟩
abbrev cX9_apart : ByteArray := prog_11_method_50_code
def yX9_apart : MethodName := ⟨RX9, "apart", "(I)I"⟩
abbrev cX9_taxBy : ByteArray := prog_11_method_51_code
def yX9_taxBy : MethodName := ⟨RX9, "taxBy", "(II)I"⟩
abbrev cX9_cheapestOf : ByteArray := prog_11_method_52_code
def yX9_cheapestOf : MethodName := ⟨RX9, "cheapestOf", "(I)I"⟩
abbrev cX9_cheapest : ByteArray := prog_11_method_53_code
def yX9_cheapest : MethodName := ⟨RX9, "cheapest", "(I)I"⟩
abbrev cX9_tells : ByteArray := prog_11_method_54_code
def yX9_tells : MethodName := ⟨RX9, "tells", "(II)I"⟩
abbrev cX9_record : ByteArray := prog_11_method_55_code
def yX9_record : MethodName := ⟨RX9, "record", "(II)I"⟩
abbrev cX9_forget : ByteArray := prog_11_method_56_code
def yX9_forget : MethodName := ⟨RX9, "forget", "()I"⟩
abbrev cX9_isAsTold : ByteArray := prog_11_method_57_code
def yX9_isAsTold : MethodName := ⟨RX9, "isAsTold", "()Z"⟩
abbrev cX9_isAsRecorded : ByteArray := prog_11_method_58_code
def yX9_isAsRecorded : MethodName := ⟨RX9, "isAsRecorded", "()Z"⟩
abbrev cX9_who : ByteArray := prog_11_method_59_code
def yX9_who : MethodName := ⟨RX9, "who", "()I"⟩
abbrev cX9_which : ByteArray := prog_11_method_60_code
def yX9_which : MethodName := ⟨RX9, "which", "(I)I"⟩
abbrev cX9_mayMarry : ByteArray := prog_11_method_61_code
def yX9_mayMarry : MethodName := ⟨RX9, "mayMarry", "(II)Z"⟩
abbrev cX9_pairs : ByteArray := prog_11_method_62_code
def yX9_pairs : MethodName := ⟨RX9, "pairs", "()V"⟩
abbrev cX9_married : ByteArray := prog_11_method_63_code
def yX9_married : MethodName := ⟨RX9, "married", "(I)I"⟩
abbrev cX9_power : ByteArray := prog_11_method_64_code
def yX9_power : MethodName := ⟨RX9, "power", "(II)I"⟩
abbrev cX9_odds : ByteArray := prog_11_method_65_code
def yX9_odds : MethodName := ⟨RX9, "odds", "(IIII)I"⟩
abbrev cX9_rate : ByteArray := prog_11_method_66_code
def yX9_rate : MethodName := ⟨RX9, "rate", "(II)I"⟩
abbrev cX9_keep : ByteArray := prog_11_method_67_code
def yX9_keep : MethodName := ⟨RX9, "keep", "(I)I"⟩
abbrev cX9_back : ByteArray := prog_11_method_68_code
def yX9_back : MethodName := ⟨RX9, "back", "(I)I"⟩
abbrev cX9_count : ByteArray := prog_11_method_69_code
def yX9_count : MethodName := ⟨RX9, "count", "(I)I"⟩
abbrev cX9_trace : ByteArray := prog_11_method_70_code
def yX9_trace : MethodName := ⟨RX9, "trace", "()J"⟩
def RJ6 : String := "java/lang/Integer"
def TJ6 : u_T := fun k => match k with
  | _ => ("", "", "", false)
def tyJ6 : Nat → FieldType := fun k => match k with
  | _ => .int
abbrev wsJ60 : List Cond := u_ws RJ6 TJ6 0
theorem nmJ6 : ∀ a, a < 0 → ∀ b, b < 0 → a ≠ b → (TJ6 a).2.1 ≠ (TJ6 b).2.1 := by decide +kernel
theorem tyJ6_ok : ∀ k, k < 0 → parseFieldDescriptor (TJ6 k).2.2.1 = some (tyJ6 k) := by decide +kernel
abbrev cJ6_bitCount_0f7a4 : ByteArray := prog_12_method_49_code
def yJ6_bitCount_0f7a4 : MethodName := ⟨RJ6, "bitCount", "(I)I"⟩
def RJ9 : String := "java/lang/Math"
def TJ9 : u_T := fun k => match k with
  | _ => ("", "", "", false)
def tyJ9 : Nat → FieldType := fun k => match k with
  | _ => .int
abbrev wsJ90 : List Cond := u_ws RJ9 TJ9 0
theorem nmJ9 : ∀ a, a < 0 → ∀ b, b < 0 → a ≠ b → (TJ9 a).2.1 ≠ (TJ9 b).2.1 := by decide +kernel
theorem tyJ9_ok : ∀ k, k < 0 → parseFieldDescriptor (TJ9 k).2.2.1 = some (tyJ9 k) := by decide +kernel
abbrev cJ9_max_7cf53 : ByteArray := prog_13_method_65_code
def yJ9_max_7cf53 : MethodName := ⟨RJ9, "max", "(II)I"⟩
abbrev cJ9_min_7cf53 : ByteArray := prog_13_method_69_code
def yJ9_min_7cf53 : MethodName := ⟨RJ9, "min", "(II)I"⟩
def RJ10 : String := "java/lang/System"
def TJ10 : u_T := fun k => match k with
  | _ => ("", "", "", false)
def tyJ10 : Nat → FieldType := fun k => match k with
  | _ => .int
abbrev wsJ100 : List Cond := u_ws RJ10 TJ10 0
theorem nmJ10 : ∀ a, a < 0 → ∀ b, b < 0 → a ≠ b → (TJ10 a).2.1 ≠ (TJ10 b).2.1 := by decide +kernel
theorem tyJ10_ok : ∀ k, k < 0 → parseFieldDescriptor (TJ10 k).2.2.1 = some (tyJ10 k) := by decide +kernel
def RL : String := "OneJohnLaw"
abbrev cL_law : ByteArray := code
def yL_law : MethodName := ⟨RL, "law", "([I)Z"⟩
def wsL_law_r1 : List Cond := [Cond.classLink RL 7 RX8, Cond.instantiable RX8 11, Cond.initialized RX8, Cond.classLink RL 10 RX9, Cond.instantiable RX9 29, Cond.initialized RX9, Cond.methodLink RL 9 yX8_init, Cond.instanceMethod yX8_init, Cond.code yX8_init cX8_init 2 none, Cond.methodLink RX8 1 objectInit, Cond.instanceMethod objectInit, Cond.code objectInit ⟨#[0xb1]⟩ 1 none, Cond.classLink RX8 7 RX6, Cond.instantiable RX6 2, Cond.initialized RX6, Cond.fieldLink RX8 10 "OneJohn" "text" "LOneJohn$Text;", Cond.classLink RX8 16 RX4, Cond.instantiable RX4 6, Cond.initialized RX4, Cond.fieldLink RX8 19 "OneJohn" "reader" "LOneJohn$Reader;", Cond.classLink RX8 23 RX1, Cond.instantiable RX1 6, Cond.initialized RX1, Cond.fieldLink RX8 26 "OneJohn" "land" "LOneJohn$Land;"]
def wsL_law_r2 : List Cond := [Cond.classLink RX8 30 RX3, Cond.instantiable RX3 3, Cond.initialized RX3, Cond.fieldLink RX8 33 "OneJohn" "past" "LOneJohn$Past;", Cond.classLink RX8 37 RX0, Cond.instantiable RX0 3, Cond.initialized RX0, Cond.fieldLink RX8 40 "OneJohn" "told" "LOneJohn$Claims;", Cond.fieldLink RX8 44 "OneJohn" "records" "LOneJohn$Claims;", Cond.classLink RX8 47 RX5, Cond.instantiable RX5 3, Cond.initialized RX5, Cond.fieldLink RX8 50 "OneJohn" "renaming" "LOneJohn$Renaming;", Cond.classLink RX8 54 RX7, Cond.instantiable RX7 3, Cond.initialized RX7, Cond.fieldLink RX8 57 "OneJohn" "wedding" "LOneJohn$Wedding;", Cond.classLink RX8 61 RX2, Cond.fieldLink RX8 63 "OneJohn" "images" "[LOneJohn$Now;", Cond.arrayClass .boolean, Cond.fieldLink RX8 67 "OneJohn" "kept" "[Z", Cond.fieldLink RX8 71 "OneJohn" "trace" "J", Cond.instantiable RX2 7, Cond.initialized RX2]
def wsL_law_r3 : List Cond := [Cond.instanceMethod yX6_init, Cond.code yX6_init cX6_init 1 none, Cond.methodLink RX6 3 objectInit, Cond.arrayClass .int, Cond.fieldLink RX6 9 "OneJohn$Text" "letters" "[I", Cond.fieldLink RX6 15 "OneJohn$Text" "length" "I", Cond.instanceMethod yX4_init, Cond.code yX4_init cX4_init 1 none, Cond.methodLink RX4 3 objectInit, Cond.classLink RX4 9 RX1, Cond.fieldLink RX4 12 "OneJohn$Reader" "draft" "LOneJohn$Land;", Cond.fieldLink RX4 18 "OneJohn$Reader" "place" "I", Cond.fieldLink RX4 22 "OneJohn$Reader" "start" "I", Cond.fieldLink RX4 25 "OneJohn$Reader" "token" "I", Cond.fieldLink RX4 28 "OneJohn$Reader" "value" "I", Cond.fieldLink RX4 31 "OneJohn$Reader" "lawsTold" "Z", Cond.instanceMethod yX1_init, Cond.code yX1_init cX1_init 1 none, Cond.methodLink RX1 3 objectInit, Cond.fieldLink RX1 9 "OneJohn$Land" "favours" "[I", Cond.fieldLink RX1 15 "OneJohn$Land" "foes" "[I", Cond.fieldLink RX1 18 "OneJohn$Land" "due" "[I", Cond.classLink RX1 21 RX2, Cond.fieldLink RX1 24 "OneJohn$Land" "now" "LOneJohn$Now;"]
def wsL_law_r4 : List Cond := [Cond.fieldLink RX1 28 "OneJohn$Land" "nameCount" "I", Cond.fieldLink RX1 32 "OneJohn$Land" "people" "I", Cond.instanceMethod yX2_init, Cond.code yX2_init cX2_init 1 none, Cond.methodLink RX2 3 objectInit, Cond.fieldLink RX2 9 "OneJohn$Now" "names" "[I", Cond.fieldLink RX2 15 "OneJohn$Now" "wealth" "[I", Cond.fieldLink RX2 18 "OneJohn$Now" "deeds" "[I", Cond.fieldLink RX2 21 "OneJohn$Now" "hurt" "I", Cond.fieldLink RX2 25 "OneJohn$Now" "laws" "I", Cond.fieldLink RX2 28 "OneJohn$Now" "chest" "I", Cond.fieldLink RX2 31 "OneJohn$Now" "years" "I", Cond.methodLink RX8 32 yX3_init, Cond.instanceMethod yX3_init, Cond.code yX3_init cX3_init 2 none, Cond.methodLink RX3 3 objectInit, Cond.classLink RX3 9 RX2, Cond.fieldLink RX3 11 "OneJohn$Past" "rows" "[LOneJohn$Now;", Cond.fieldLink RX3 17 "OneJohn$Past" "next" "I", Cond.fieldLink RX3 21 "OneJohn$Past" "size" "I", Cond.instanceMethod yX0_init, Cond.code yX0_init cX0_init 1 none, Cond.methodLink RX0 3 objectInit, Cond.fieldLink RX0 9 "OneJohn$Claims" "subjects" "[I"]
def wsL_law_r5 : List Cond := [Cond.fieldLink RX0 15 "OneJohn$Claims" "answers" "[I", Cond.fieldLink RX0 18 "OneJohn$Claims" "size" "I", Cond.instanceMethod yX5_init, Cond.code yX5_init cX5_init 1 none, Cond.methodLink RX5 3 objectInit, Cond.fieldLink RX5 9 "OneJohn$Renaming" "way" "[I", Cond.fieldLink RX5 15 "OneJohn$Renaming" "best" "[I", Cond.fieldLink RX5 18 "OneJohn$Renaming" "fewest" "I", Cond.instanceMethod yX7_init, Cond.code yX7_init cX7_init 1 none, Cond.methodLink RX7 3 objectInit, Cond.fieldLink RX7 9 "OneJohn$Wedding" "way" "[I", Cond.fieldLink RX7 15 "OneJohn$Wedding" "best" "[I", Cond.fieldLink RX7 18 "OneJohn$Wedding" "most" "I", Cond.methodLink RL 12 yX9_init, Cond.instanceMethod yX9_init, Cond.code yX9_init cX9_init 1 none, Cond.methodLink RX9 1 objectInit, Cond.fieldLink RX9 7 "OneJohnModel" "text" "[I", Cond.fieldLink RX9 13 "OneJohnModel" "many" "[I", Cond.fieldLink RX9 16 "OneJohnModel" "name" "[I", Cond.fieldLink RX9 19 "OneJohnModel" "wealth" "[I", Cond.fieldLink RX9 22 "OneJohnModel" "bills" "[I", Cond.fieldLink RX9 25 "OneJohnModel" "quarrel" "[I"]
def wsL_law_r6 : List Cond := [Cond.fieldLink RX9 28 "OneJohnModel" "s" "[I", Cond.fieldLink RX9 31 "OneJohnModel" "w" "[I", Cond.fieldLink RX9 34 "OneJohnModel" "kept" "[I", Cond.fieldLink RX9 37 "OneJohnModel" "isKept" "[Z", Cond.fieldLink RX9 41 "OneJohnModel" "undos" "[I", Cond.fieldLink RX9 44 "OneJohnModel" "toldOf" "[I", Cond.fieldLink RX9 47 "OneJohnModel" "toldIs" "[I", Cond.fieldLink RX9 50 "OneJohnModel" "recordOf" "[I", Cond.fieldLink RX9 53 "OneJohnModel" "recordIs" "[I", Cond.fieldLink RX9 56 "OneJohnModel" "best" "[I", Cond.fieldLink RX9 59 "OneJohnModel" "twos" "[I", Cond.methodLink RL 13 yX8_type, Cond.instanceMethod yX8_type, Cond.selects RX8 yX8_type yX8_type, Cond.code yX8_type cX8_type 2 (some .int), Cond.fieldLink RX8 80 "OneJohn$Text" "length" "I", Cond.fieldLink RX8 84 "OneJohn$Text" "letters" "[I", Cond.methodLink RX8 76 yX8_within, Cond.static yX8_within, Cond.code yX8_within cX8_within 3 (some .boolean), Cond.methodLink RL 17 yX9_type, Cond.instanceMethod yX9_type, Cond.selects RX9 yX9_type yX9_type, Cond.code yX9_type cX9_type 2 (some .int)]
def wsL_law_r7 : List Cond := [Cond.fieldLink RX9 62 "OneJohnModel" "thrown" "I", Cond.fieldLink RX9 70 "OneJohnModel" "typed" "I", Cond.methodLink RX9 66 yX9_in, Cond.static yX9_in, Cond.code yX9_in cX9_in 3 (some .boolean), Cond.methodLink RL 18 yX8_clear, Cond.instanceMethod yX8_clear, Cond.selects RX8 yX8_clear yX8_clear, Cond.code yX8_clear cX8_clear 2 (some .int), Cond.methodLink RL 22 yX9_clear, Cond.instanceMethod yX9_clear, Cond.selects RX9 yX9_clear yX9_clear, Cond.code yX9_clear cX9_clear 2 (some .int), Cond.methodLink RL 23 yX8_republic, Cond.instanceMethod yX8_republic, Cond.selects RX8 yX8_republic yX8_republic, Cond.code yX8_republic cX8_republic 3 (some .int), Cond.fieldLink RX8 92 "OneJohn$Reader" "draft" "LOneJohn$Land;", Cond.fieldLink RX8 99 "OneJohn$Past" "size" "I", Cond.fieldLink RX8 102 "OneJohn$Claims" "size" "I", Cond.methodLink RX8 88 yX4_read, Cond.instanceMethod yX4_read, Cond.selects RX4 yX4_read yX4_read, Cond.code yX4_read cX4_read 3 (some .int)]
def wsL_law_r8 : List Cond := [Cond.methodLink RX4 35 yX1_empty, Cond.instanceMethod yX1_empty, Cond.selects RX1 yX1_empty yX1_empty, Cond.code yX1_empty cX1_empty 1 none, Cond.fieldLink RX1 35 "OneJohn$Now" "hurt" "I", Cond.fieldLink RX1 38 "OneJohn$Now" "laws" "I", Cond.fieldLink RX1 41 "OneJohn$Now" "chest" "I", Cond.fieldLink RX1 44 "OneJohn$Now" "years" "I", Cond.methodLink RX4 38 yX4_nextToken, Cond.instanceMethod yX4_nextToken, Cond.selects RX4 yX4_nextToken yX4_nextToken, Cond.code yX4_nextToken cX4_nextToken 2 none, Cond.fieldLink RX4 93 "OneJohn$Text" "length" "I", Cond.fieldLink RX4 98 "OneJohn$Text" "letters" "[I", Cond.methodLink RX4 101 yX4_isDigit, Cond.static yX4_isDigit, Cond.code yX4_isDigit cX4_isDigit 1 (some .boolean), Cond.methodLink RX4 105 yX4_takeNumber, Cond.instanceMethod yX4_takeNumber, Cond.selects RX4 yX4_takeNumber yX4_takeNumber, Cond.code yX4_takeNumber cX4_takeNumber 4 none, Cond.methodLink RX4 42 yX4_readItem, Cond.instanceMethod yX4_readItem, Cond.selects RX4 yX4_readItem yX4_readItem]
def wsL_law_r9 : List Cond := [Cond.code yX4_readItem cX4_readItem 3 (some .boolean), Cond.fieldLink RX4 53 "OneJohn$Land" "people" "I", Cond.methodLink RX4 46 yX4_readNames, Cond.instanceMethod yX4_readNames, Cond.selects RX4 yX4_readNames yX4_readNames, Cond.code yX4_readNames cX4_readNames 2 (some .boolean), Cond.fieldLink RX4 69 "OneJohn$Land" "nameCount" "I", Cond.methodLink RX4 65 yX4_readNumber, Cond.instanceMethod yX4_readNumber, Cond.selects RX4 yX4_readNumber yX4_readNumber, Cond.code yX4_readNumber cX4_readNumber 4 (some .boolean), Cond.methodLink RX4 50 yX4_isEnded, Cond.instanceMethod yX4_isEnded, Cond.selects RX4 yX4_isEnded yX4_isEnded, Cond.code yX4_isEnded cX4_isEnded 2 (some .boolean), Cond.methodLink RX4 56 yX4_readPerson, Cond.instanceMethod yX4_readPerson, Cond.selects RX4 yX4_readPerson yX4_readPerson, Cond.code yX4_readPerson cX4_readPerson 4 (some .boolean), Cond.methodLink RX4 72 yX1_addPerson, Cond.instanceMethod yX1_addPerson, Cond.selects RX1 yX1_addPerson yX1_addPerson, Cond.code yX1_addPerson cX1_addPerson 4 none, Cond.fieldLink RX1 57 "OneJohn$Now" "names" "[I"]
def wsL_law_r10 : List Cond := [Cond.fieldLink RX1 60 "OneJohn$Now" "wealth" "[I", Cond.fieldLink RX1 63 "OneJohn$Now" "deeds" "[I", Cond.methodLink RX4 59 yX4_readQuarrel, Cond.instanceMethod yX4_readQuarrel, Cond.selects RX4 yX4_readQuarrel yX4_readQuarrel, Cond.code yX4_readQuarrel cX4_readQuarrel 3 (some .boolean), Cond.fieldLink RX4 76 "OneJohn$Land" "foes" "[I", Cond.methodLink RX4 62 yX4_readLaws, Cond.instanceMethod yX4_readLaws, Cond.selects RX4 yX4_readLaws yX4_readLaws, Cond.code yX4_readLaws cX4_readLaws 2 (some .boolean), Cond.fieldLink RX4 80 "OneJohn$Land" "now" "LOneJohn$Now;", Cond.fieldLink RX4 84 "OneJohn$Now" "laws" "I", Cond.methodLink RX8 95 yX1_take, Cond.instanceMethod yX1_take, Cond.selects RX1 yX1_take yX1_take, Cond.code yX1_take cX1_take 2 none, Cond.methodLink RX1 47 arraycopyName, Cond.native arraycopyName, Cond.static arraycopyName, Cond.initialized "java/lang/System", Cond.methodLink RX1 53 yX2_take, Cond.instanceMethod yX2_take, Cond.selects RX2 yX2_take yX2_take]
def wsL_law_r11 : List Cond := [Cond.code yX2_take cX2_take 2 none, Cond.methodLink RX2 34 arraycopyName, Cond.methodLink RL 26 yX9_republic, Cond.instanceMethod yX9_republic, Cond.selects RX9 yX9_republic yX9_republic, Cond.code yX9_republic cX9_republic 3 (some .int), Cond.fieldLink RX9 89 "OneJohnModel" "fault" "I", Cond.fieldLink RX9 73 "OneJohnModel" "next" "I", Cond.fieldLink RX9 103 "OneJohnModel" "isLawTold" "Z", Cond.fieldLink RX9 83 "OneJohnModel" "token" "I", Cond.methodLink RX9 96 yX9_advances, Cond.instanceMethod yX9_advances, Cond.selects RX9 yX9_advances yX9_advances, Cond.code yX9_advances cX9_advances 2 none, Cond.fieldLink RX9 80 "OneJohnModel" "place" "I", Cond.fieldLink RX9 86 "OneJohnModel" "value" "I", Cond.methodLink RX9 76 yX9_letterAt, Cond.instanceMethod yX9_letterAt, Cond.selects RX9 yX9_letterAt yX9_letterAt, Cond.code yX9_letterAt cX9_letterAt 2 (some .int), Cond.methodLink RX9 92 yX9_isWell, Cond.instanceMethod yX9_isWell, Cond.selects RX9 yX9_isWell yX9_isWell, Cond.code yX9_isWell cX9_isWell 1 (some .boolean)]
def wsL_law_r12 : List Cond := [Cond.methodLink RX9 111 yX9_mayBegin, Cond.instanceMethod yX9_mayBegin, Cond.selects RX9 yX9_mayBegin yX9_mayBegin, Cond.code yX9_mayBegin cX9_mayBegin 2 (some .boolean), Cond.methodLink RX9 99 yX9_takes, Cond.instanceMethod yX9_takes, Cond.selects RX9 yX9_takes yX9_takes, Cond.code yX9_takes cX9_takes 3 (some .int), Cond.methodLink RX9 115 yX9_readsItem, Cond.instanceMethod yX9_readsItem, Cond.selects RX9 yX9_readsItem yX9_readsItem, Cond.code yX9_readsItem cX9_readsItem 4 none, Cond.methodLink RX9 107 yX9_number, Cond.instanceMethod yX9_number, Cond.selects RX9 yX9_number yX9_number, Cond.code yX9_number cX9_number 3 (some .int), Cond.methodLink RX9 119 yX9_settles, Cond.instanceMethod yX9_settles, Cond.selects RX9 yX9_settles yX9_settles, Cond.code yX9_settles cX9_settles 2 none, Cond.fieldLink RX9 122 "OneJohnModel" "toldMany" "I", Cond.fieldLink RX9 125 "OneJohnModel" "recordMany" "I", Cond.fieldLink RX9 128 "OneJohnModel" "undoMany" "I", Cond.methodLink RL 27 yX8_person]
def wsL_law_r13 : List Cond := [Cond.instanceMethod yX8_person, Cond.selects RX8 yX8_person yX8_person, Cond.code yX8_person cX8_person 3 (some .int), Cond.fieldLink RX8 107 "OneJohn$Land" "now" "LOneJohn$Now;", Cond.fieldLink RX8 111 "OneJohn$Now" "names" "[I", Cond.fieldLink RX8 114 "OneJohn$Now" "wealth" "[I", Cond.fieldLink RX8 117 "OneJohn$Land" "favours" "[I", Cond.fieldLink RX8 120 "OneJohn$Now" "hurt" "I", Cond.fieldLink RX8 131 "OneJohn$Now" "deeds" "[I", Cond.methodLink RX8 103 yX1_hasPerson, Cond.instanceMethod yX1_hasPerson, Cond.selects RX1 yX1_hasPerson yX1_hasPerson, Cond.code yX1_hasPerson cX1_hasPerson 2 (some .boolean), Cond.methodLink RX8 123 yX8_bit, Cond.static yX8_bit, Cond.code yX8_bit cX8_bit 2 (some .int), Cond.methodLink RX8 127 yX1_limping, Cond.instanceMethod yX1_limping, Cond.selects RX1 yX1_limping yX1_limping, Cond.code yX1_limping cX1_limping 1 (some .int), Cond.methodLink RX1 74 yX1_limpingIf, Cond.instanceMethod yX1_limpingIf, Cond.selects RX1 yX1_limpingIf yX1_limpingIf, Cond.code yX1_limpingIf cX1_limpingIf 6 (some .int)]
def wsL_law_r14 : List Cond := [Cond.methodLink RX1 77 yX1_bearers, Cond.instanceMethod yX1_bearers, Cond.selects RX1 yX1_bearers yX1_bearers, Cond.code yX1_bearers cX1_bearers 4 (some .int), Cond.methodLink RX8 134 yX1_fame, Cond.instanceMethod yX1_fame, Cond.selects RX1 yX1_fame yX1_fame, Cond.code yX1_fame cX1_fame 4 (some .int), Cond.methodLink RX8 138 yX1_tax, Cond.instanceMethod yX1_tax, Cond.selects RX1 yX1_tax yX1_tax, Cond.code yX1_tax cX1_tax 2 (some .int), Cond.methodLink RX1 81 yX1_taxIfNamed, Cond.instanceMethod yX1_taxIfNamed, Cond.selects RX1 yX1_taxIfNamed yX1_taxIfNamed, Cond.code yX1_taxIfNamed cX1_taxIfNamed 5 (some .int), Cond.methodLink RX1 89 Lib.Math.max.name, Cond.static Lib.Math.max.name, Cond.initialized "java/lang/Math", Cond.code Lib.Math.max.name Lib.Math.max.code 2 (some .int), Cond.methodLink RX1 84 yJ6_bitCount_0f7a4, Cond.static yJ6_bitCount_0f7a4, Cond.initialized RJ6, Cond.code yJ6_bitCount_0f7a4 cJ6_bitCount_0f7a4 1 (some .int)]
def wsL_law_r15 : List Cond := [Cond.constant RJ6 265 (1431655765), Cond.constant RJ6 266 (858993459), Cond.constant RJ6 267 (252645135), Cond.methodLink RX1 94 yX1_wealthOf, Cond.instanceMethod yX1_wealthOf, Cond.selects RX1 yX1_wealthOf yX1_wealthOf, Cond.code yX1_wealthOf cX1_wealthOf 4 (some .int), Cond.methodLink RL 31 yX9_person, Cond.instanceMethod yX9_person, Cond.selects RX9 yX9_person yX9_person, Cond.code yX9_person cX9_person 3 (some .int), Cond.methodLink RX9 153 yX9_isPerson, Cond.instanceMethod yX9_isPerson, Cond.selects RX9 yX9_isPerson yX9_isPerson, Cond.code yX9_isPerson cX9_isPerson 2 (some .boolean), Cond.methodLink RX9 156 yX9_limps, Cond.instanceMethod yX9_limps, Cond.selects RX9 yX9_limps yX9_limps, Cond.code yX9_limps cX9_limps 4 (some .boolean), Cond.methodLink RX9 131 yX9_isLaw, Cond.static yX9_isLaw, Cond.code yX9_isLaw cX9_isLaw 2 (some .boolean), Cond.methodLink RX9 135 yX9_peopleOf, Cond.instanceMethod yX9_peopleOf]
def wsL_law_r16 : List Cond := [Cond.selects RX9 yX9_peopleOf yX9_peopleOf, Cond.code yX9_peopleOf cX9_peopleOf 5 (some .int), Cond.methodLink RX9 159 yX9_fame, Cond.instanceMethod yX9_fame, Cond.selects RX9 yX9_fame yX9_fame, Cond.code yX9_fame cX9_fame 3 (some .int), Cond.methodLink RX9 139 yX9_sumOf, Cond.instanceMethod yX9_sumOf, Cond.selects RX9 yX9_sumOf yX9_sumOf, Cond.code yX9_sumOf cX9_sumOf 6 (some .int), Cond.methodLink RX9 162 yX9_tax, Cond.instanceMethod yX9_tax, Cond.selects RX9 yX9_tax yX9_tax, Cond.code yX9_tax cX9_tax 4 (some .int), Cond.methodLink RX9 143 yX9_ones, Cond.static yX9_ones, Cond.code yX9_ones cX9_ones 3 (some .int), Cond.methodLink RL 32 yX8_quarrels, Cond.instanceMethod yX8_quarrels, Cond.selects RX8 yX8_quarrels yX8_quarrels, Cond.code yX8_quarrels cX8_quarrels 2 (some .int), Cond.fieldLink RX8 141 "OneJohn$Land" "foes" "[I", Cond.methodLink RL 35 yX9_quarrels, Cond.instanceMethod yX9_quarrels]
def wsL_law_r17 : List Cond := [Cond.selects RX9 yX9_quarrels yX9_quarrels, Cond.code yX9_quarrels cX9_quarrels 2 (some .int), Cond.methodLink RL 36 yX8_name, Cond.instanceMethod yX8_name, Cond.selects RX8 yX8_name yX8_name, Cond.code yX8_name cX8_name 5 (some .int), Cond.methodLink RX8 155 Lib.Math.max.name, Cond.methodLink RX8 144 yX1_hasName, Cond.instanceMethod yX1_hasName, Cond.selects RX1 yX1_hasName yX1_hasName, Cond.code yX1_hasName cX1_hasName 2 (some .boolean), Cond.methodLink RX8 147 yX1_bearers, Cond.methodLink RX8 150 yJ6_bitCount_0f7a4, Cond.methodLink RX8 160 yX1_wealthOf, Cond.methodLink RX8 163 yX8_inLeastTerms, Cond.static yX8_inLeastTerms, Cond.code yX8_inLeastTerms cX8_inLeastTerms 3 (some .int), Cond.methodLink RX8 270 yX8_commonDivisor, Cond.static yX8_commonDivisor, Cond.code yX8_commonDivisor cX8_commonDivisor 6 (some .int), Cond.methodLink RL 39 yX9_name, Cond.instanceMethod yX9_name, Cond.selects RX9 yX9_name yX9_name, Cond.code yX9_name cX9_name 4 (some .int)]
def wsL_law_r18 : List Cond := [Cond.methodLink RX9 168 yX9_isName, Cond.instanceMethod yX9_isName, Cond.selects RX9 yX9_isName yX9_isName, Cond.code yX9_isName cX9_isName 2 (some .boolean), Cond.methodLink RX9 171 yX9_part, Cond.static yX9_part, Cond.code yX9_part cX9_part 4 (some .int), Cond.methodLink RX9 165 yX9_gcd, Cond.static yX9_gcd, Cond.code yX9_gcd cX9_gcd 5 (some .int), Cond.methodLink RL 40 yX8_bill, Cond.instanceMethod yX8_bill, Cond.selects RX8 yX8_bill yX8_bill, Cond.code yX8_bill cX8_bill 4 (some .int), Cond.fieldLink RX8 166 "OneJohn$Now" "laws" "I", Cond.methodLink RX8 169 yX1_yes, Cond.instanceMethod yX1_yes, Cond.selects RX1 yX1_yes yX1_yes, Cond.code yX1_yes cX1_yes 4 (some .int), Cond.methodLink RX1 111 yX1_sayers, Cond.instanceMethod yX1_sayers, Cond.selects RX1 yX1_sayers yX1_sayers, Cond.code yX1_sayers cX1_sayers 5 (some .int), Cond.methodLink RX1 114 yX1_votes]
def wsL_law_r19 : List Cond := [Cond.instanceMethod yX1_votes, Cond.selects RX1 yX1_votes yX1_votes, Cond.code yX1_votes cX1_votes 11 (some .int), Cond.methodLink RX8 173 yX1_no, Cond.instanceMethod yX1_no, Cond.selects RX1 yX1_no yX1_no, Cond.code yX1_no cX1_no 4 (some .int), Cond.methodLink RX8 176 yX1_passes, Cond.instanceMethod yX1_passes, Cond.selects RX1 yX1_passes yX1_passes, Cond.code yX1_passes cX1_passes 4 (some .boolean), Cond.methodLink RX1 118 yX1_yes, Cond.methodLink RX1 122 yX1_no, Cond.methodLink RX8 179 yX1_sway, Cond.instanceMethod yX1_sway, Cond.selects RX1 yX1_sway yX1_sway, Cond.code yX1_sway cX1_sway 5 (some .int), Cond.methodLink RX1 125 yX1_passes, Cond.methodLink RL 43 yX9_bill, Cond.instanceMethod yX9_bill, Cond.selects RX9 yX9_bill yX9_bill, Cond.code yX9_bill cX9_bill 3 (some .int), Cond.methodLink RX9 175 yX9_everybody, Cond.instanceMethod yX9_everybody]
def wsL_law_r20 : List Cond := [Cond.selects RX9 yX9_everybody yX9_everybody, Cond.code yX9_everybody cX9_everybody 1 (some .int), Cond.methodLink RX9 149 yX9_voices, Cond.instanceMethod yX9_voices, Cond.selects RX9 yX9_voices yX9_voices, Cond.code yX9_voices cX9_voices 7 (some .int), Cond.methodLink RX9 146 yX9_leadOf, Cond.instanceMethod yX9_leadOf, Cond.selects RX9 yX9_leadOf yX9_leadOf, Cond.code yX9_leadOf cX9_leadOf 5 (some .int), Cond.methodLink RX9 179 yX9_passes, Cond.instanceMethod yX9_passes, Cond.selects RX9 yX9_passes yX9_passes, Cond.code yX9_passes cX9_passes 4 (some .boolean), Cond.methodLink RX9 183 yX9_swayOf, Cond.instanceMethod yX9_swayOf, Cond.selects RX9 yX9_swayOf yX9_swayOf, Cond.code yX9_swayOf cX9_swayOf 4 (some .int), Cond.methodLink RL 44 yX8_now, Cond.instanceMethod yX8_now, Cond.selects RX8 yX8_now yX8_now, Cond.code yX8_now cX8_now 2 (some .int), Cond.fieldLink RX8 182 "OneJohn$Now" "years" "I", Cond.fieldLink RX8 185 "OneJohn$Now" "chest" "I"]
def wsL_law_r21 : List Cond := [Cond.methodLink RX8 188 yX1_badOnes, Cond.instanceMethod yX1_badOnes, Cond.selects RX1 yX1_badOnes yX1_badOnes, Cond.code yX1_badOnes cX1_badOnes 4 (some .int), Cond.methodLink RX1 107 yX1_quarrel, Cond.instanceMethod yX1_quarrel, Cond.selects RX1 yX1_quarrel yX1_quarrel, Cond.code yX1_quarrel cX1_quarrel 3 (some .boolean), Cond.methodLink RX8 191 yX1_alone, Cond.instanceMethod yX1_alone, Cond.selects RX1 yX1_alone yX1_alone, Cond.code yX1_alone cX1_alone 4 (some .int), Cond.methodLink RX8 194 yX1_restless, Cond.instanceMethod yX1_restless, Cond.selects RX1 yX1_restless yX1_restless, Cond.code yX1_restless cX1_restless 3 (some .int), Cond.methodLink RX1 104 yX1_cheapestName, Cond.instanceMethod yX1_cheapestName, Cond.selects RX1 yX1_cheapestName yX1_cheapestName, Cond.code yX1_cheapestName cX1_cheapestName 4 (some .int), Cond.methodLink RX1 97 yX1_tax, Cond.methodLink RL 47 yX9_now, Cond.instanceMethod yX9_now, Cond.selects RX9 yX9_now yX9_now]
def wsL_law_r22 : List Cond := [Cond.code yX9_now cX9_now 2 (some .int), Cond.methodLink RX9 192 yX9_limping, Cond.instanceMethod yX9_limping, Cond.selects RX9 yX9_limping yX9_limping, Cond.code yX9_limping cX9_limping 3 (some .int), Cond.methodLink RX9 195 yX9_badOnes, Cond.instanceMethod yX9_badOnes, Cond.selects RX9 yX9_badOnes yX9_badOnes, Cond.code yX9_badOnes cX9_badOnes 3 (some .int), Cond.methodLink RX9 198 yX9_alone, Cond.instanceMethod yX9_alone, Cond.selects RX9 yX9_alone yX9_alone, Cond.code yX9_alone cX9_alone 3 (some .int), Cond.methodLink RX9 201 yX9_restless, Cond.instanceMethod yX9_restless, Cond.selects RX9 yX9_restless yX9_restless, Cond.code yX9_restless cX9_restless 3 (some .int), Cond.methodLink RX9 186 yX9_cheapestOf, Cond.instanceMethod yX9_cheapestOf, Cond.selects RX9 yX9_cheapestOf yX9_cheapestOf, Cond.code yX9_cheapestOf cX9_cheapestOf 4 (some .int), Cond.methodLink RX9 189 yX9_taxBy, Cond.instanceMethod yX9_taxBy, Cond.selects RX9 yX9_taxBy yX9_taxBy]
def wsL_law_r23 : List Cond := [Cond.code yX9_taxBy cX9_taxBy 3 (some .int), Cond.methodLink RX9 212 yX9_asNow, Cond.instanceMethod yX9_asNow, Cond.selects RX9 yX9_asNow yX9_asNow, Cond.code yX9_asNow cX9_asNow 2 none, Cond.methodLink RL 48 yX8_hurts, Cond.instanceMethod yX8_hurts, Cond.selects RX8 yX8_hurts yX8_hurts, Cond.code yX8_hurts cX8_hurts 4 (some .int), Cond.methodLink RX8 197 yX3_remember, Cond.instanceMethod yX3_remember, Cond.selects RX3 yX3_remember yX3_remember, Cond.code yX3_remember cX3_remember 2 none, Cond.methodLink RX3 29 Lib.Math.min.name, Cond.static Lib.Math.min.name, Cond.code Lib.Math.min.name Lib.Math.min.code 2 (some .int), Cond.methodLink RX3 25 yX2_take, Cond.methodLink RL 51 yX9_hurts, Cond.instanceMethod yX9_hurts, Cond.selects RX9 yX9_hurts yX9_hurts, Cond.code yX9_hurts cX9_hurts 4 (some .int), Cond.methodLink RX9 204 yX9_notes, Cond.instanceMethod yX9_notes, Cond.selects RX9 yX9_notes yX9_notes]
def wsL_law_r24 : List Cond := [Cond.code yX9_notes cX9_notes 2 none, Cond.methodLink RL 52 yX8_deeds, Cond.instanceMethod yX8_deeds, Cond.selects RX8 yX8_deeds yX8_deeds, Cond.code yX8_deeds cX8_deeds 2 (some .int), Cond.methodLink RL 55 yX9_deeds, Cond.instanceMethod yX9_deeds, Cond.selects RX9 yX9_deeds yX9_deeds, Cond.code yX9_deeds cX9_deeds 2 (some .int), Cond.methodLink RL 56 yX8_earns, Cond.instanceMethod yX8_earns, Cond.selects RX8 yX8_earns yX8_earns, Cond.code yX8_earns cX8_earns 3 (some .int), Cond.methodLink RX8 201 Lib.Math.min.name, Cond.methodLink RL 59 yX9_earns, Cond.instanceMethod yX9_earns, Cond.selects RX9 yX9_earns yX9_earns, Cond.code yX9_earns cX9_earns 4 (some .int), Cond.methodLink RL 60 yX8_names, Cond.instanceMethod yX8_names, Cond.selects RX8 yX8_names yX8_names, Cond.code yX8_names cX8_names 4 (some .int), Cond.methodLink RL 63 yX9_names, Cond.instanceMethod yX9_names]
def wsL_law_r25 : List Cond := [Cond.selects RX9 yX9_names yX9_names, Cond.code yX9_names cX9_names 4 (some .int), Cond.methodLink RL 64 yX8_laws, Cond.instanceMethod yX8_laws, Cond.selects RX8 yX8_laws yX8_laws, Cond.code yX8_laws cX8_laws 3 (some .int), Cond.methodLink RL 67 yX9_laws, Cond.instanceMethod yX9_laws, Cond.selects RX9 yX9_laws yX9_laws, Cond.code yX9_laws cX9_laws 3 (some .int), Cond.methodLink RL 68 yX8_year, Cond.instanceMethod yX8_year, Cond.selects RX8 yX8_year yX8_year, Cond.code yX8_year cX8_year 1 (some .int), Cond.methodLink RX8 204 yX1_payTax, Cond.instanceMethod yX1_payTax, Cond.selects RX1 yX1_payTax yX1_payTax, Cond.code yX1_payTax cX1_payTax 3 (some .int), Cond.methodLink RX1 100 Lib.Math.min.name, Cond.constant RX1 103 (999999), Cond.methodLink RL 71 yX9_year, Cond.instanceMethod yX9_year, Cond.selects RX9 yX9_year yX9_year, Cond.code yX9_year cX9_year 3 (some .int)]
def wsL_law_r26 : List Cond := [Cond.constant RX9 207 (999999), Cond.methodLink RL 72 yX8_undo, Cond.instanceMethod yX8_undo, Cond.selects RX8 yX8_undo yX8_undo, Cond.code yX8_undo cX8_undo 1 (some .int), Cond.methodLink RX8 207 yX3_recall, Cond.instanceMethod yX3_recall, Cond.selects RX3 yX3_recall yX3_recall, Cond.code yX3_recall cX3_recall 2 none, Cond.methodLink RL 75 yX9_undo, Cond.instanceMethod yX9_undo, Cond.selects RX9 yX9_undo yX9_undo, Cond.code yX9_undo cX9_undo 2 (some .int), Cond.methodLink RL 76 yX8_apart, Cond.instanceMethod yX8_apart, Cond.selects RX8 yX8_apart yX8_apart, Cond.code yX8_apart cX8_apart 2 (some .int), Cond.fieldLink RX8 217 "OneJohn$Renaming" "fewest" "I", Cond.fieldLink RX8 220 "OneJohn$Renaming" "best" "[I", Cond.methodLink RX8 210 yX5_search, Cond.instanceMethod yX5_search, Cond.selects RX5 yX5_search yX5_search, Cond.code yX5_search cX5_search 2 none, Cond.methodLink RX5 22 yX5_nameFrom]
def wsL_law_r27 : List Cond := [Cond.instanceMethod yX5_nameFrom, Cond.selects RX5 yX5_nameFrom yX5_nameFrom, Cond.code yX5_nameFrom cX5_nameFrom 5 none, Cond.fieldLink RX5 26 "OneJohn$Land" "people" "I", Cond.methodLink RX5 31 arraycopyName, Cond.fieldLink RX5 37 "OneJohn$Land" "nameCount" "I", Cond.fieldLink RX5 44 "OneJohn$Land" "now" "LOneJohn$Now;", Cond.fieldLink RX5 48 "OneJohn$Now" "names" "[I", Cond.methodLink RX5 40 yX5_isFree, Cond.instanceMethod yX5_isFree, Cond.selects RX5 yX5_isFree yX5_isFree, Cond.code yX5_isFree cX5_isFree 5 (some .boolean), Cond.methodLink RX5 53 yX1_quarrel, Cond.methodLink RX8 213 yX5_found, Cond.instanceMethod yX5_found, Cond.selects RX5 yX5_found yX5_found, Cond.code yX5_found cX5_found 1 (some .boolean), Cond.methodLink RL 79 yX9_apart, Cond.instanceMethod yX9_apart, Cond.selects RX9 yX9_apart yX9_apart, Cond.code yX9_apart cX9_apart 7 (some .int), Cond.constant RX9 208 (1000000), Cond.methodLink RX9 209 yX9_renamedBy, Cond.instanceMethod yX9_renamedBy]
def wsL_law_r28 : List Cond := [Cond.selects RX9 yX9_renamedBy yX9_renamedBy, Cond.code yX9_renamedBy cX9_renamedBy 6 (some .int), Cond.methodLink RL 80 yX8_cheapest, Cond.instanceMethod yX8_cheapest, Cond.selects RX8 yX8_cheapest yX8_cheapest, Cond.code yX8_cheapest cX8_cheapest 2 (some .int), Cond.methodLink RX8 223 yX1_cheapestName, Cond.methodLink RL 83 yX9_cheapest, Cond.instanceMethod yX9_cheapest, Cond.selects RX9 yX9_cheapest yX9_cheapest, Cond.code yX9_cheapest cX9_cheapest 2 (some .int), Cond.methodLink RL 84 yX8_tells, Cond.instanceMethod yX8_tells, Cond.selects RX8 yX8_tells yX8_tells, Cond.code yX8_tells cX8_tells 3 (some .int), Cond.methodLink RX8 226 yX0_add, Cond.instanceMethod yX0_add, Cond.selects RX0 yX0_add yX0_add, Cond.code yX0_add cX0_add 3 (some .int), Cond.methodLink RL 87 yX9_tells, Cond.instanceMethod yX9_tells, Cond.selects RX9 yX9_tells yX9_tells, Cond.code yX9_tells cX9_tells 3 (some .int), Cond.methodLink RL 88 yX8_record]
def wsL_law_r29 : List Cond := [Cond.instanceMethod yX8_record, Cond.selects RX8 yX8_record yX8_record, Cond.code yX8_record cX8_record 3 (some .int), Cond.methodLink RL 91 yX9_record, Cond.instanceMethod yX9_record, Cond.selects RX9 yX9_record yX9_record, Cond.code yX9_record cX9_record 3 (some .int), Cond.methodLink RL 92 yX8_forget, Cond.instanceMethod yX8_forget, Cond.selects RX8 yX8_forget yX8_forget, Cond.code yX8_forget cX8_forget 2 (some .int), Cond.methodLink RL 95 yX9_forget, Cond.instanceMethod yX9_forget, Cond.selects RX9 yX9_forget yX9_forget, Cond.code yX9_forget cX9_forget 2 (some .int), Cond.methodLink RL 96 yX8_who, Cond.instanceMethod yX8_who, Cond.selects RX8 yX8_who yX8_who, Cond.code yX8_who cX8_who 4 (some .int), Cond.fieldLink RX8 235 "OneJohn$Land" "people" "I", Cond.methodLink RX8 229 yX1_limpingIf, Cond.methodLink RX8 232 yX0_agree, Cond.instanceMethod yX0_agree, Cond.selects RX0 yX0_agree yX0_agree]
def wsL_law_r30 : List Cond := [Cond.code yX0_agree cX0_agree 3 (some .boolean), Cond.methodLink RL 99 yX9_who, Cond.instanceMethod yX9_who, Cond.selects RX9 yX9_who yX9_who, Cond.code yX9_who cX9_who 3 (some .int), Cond.methodLink RX9 215 yX9_isAsTold, Cond.instanceMethod yX9_isAsTold, Cond.selects RX9 yX9_isAsTold yX9_isAsTold, Cond.code yX9_isAsTold cX9_isAsTold 3 (some .boolean), Cond.methodLink RL 100 yX8_which, Cond.instanceMethod yX8_which, Cond.selects RX8 yX8_which yX8_which, Cond.code yX8_which cX8_which 6 (some .int), Cond.methodLink RX8 238 yX8_allIsSo, Cond.instanceMethod yX8_allIsSo, Cond.selects RX8 yX8_allIsSo yX8_allIsSo, Cond.code yX8_allIsSo cX8_allIsSo 2 (some .boolean), Cond.methodLink RX8 241 yX1_passing, Cond.instanceMethod yX1_passing, Cond.selects RX1 yX1_passing yX1_passing, Cond.code yX1_passing cX1_passing 4 (some .int), Cond.methodLink RL 103 yX9_which, Cond.instanceMethod yX9_which, Cond.selects RX9 yX9_which yX9_which]
def wsL_law_r31 : List Cond := [Cond.code yX9_which cX9_which 6 (some .int), Cond.methodLink RX9 218 yX9_isAsRecorded, Cond.instanceMethod yX9_isAsRecorded, Cond.selects RX9 yX9_isAsRecorded yX9_isAsRecorded, Cond.code yX9_isAsRecorded cX9_isAsRecorded 3 (some .boolean), Cond.methodLink RL 104 yX8_married, Cond.instanceMethod yX8_married, Cond.selects RX8 yX8_married yX8_married, Cond.code yX8_married cX8_married 2 (some .int), Cond.fieldLink RX8 245 "OneJohn$Wedding" "most" "I", Cond.fieldLink RX8 248 "OneJohn$Wedding" "best" "[I", Cond.methodLink RX8 244 yX7_search, Cond.instanceMethod yX7_search, Cond.selects RX7 yX7_search yX7_search, Cond.code yX7_search cX7_search 3 none, Cond.methodLink RX7 22 yX7_pairFrom, Cond.instanceMethod yX7_pairFrom, Cond.selects RX7 yX7_pairFrom yX7_pairFrom, Cond.code yX7_pairFrom cX7_pairFrom 5 none, Cond.fieldLink RX7 26 "OneJohn$Land" "people" "I", Cond.methodLink RX7 31 arraycopyName, Cond.methodLink RX7 37 yX7_mayMarry, Cond.static yX7_mayMarry, Cond.code yX7_mayMarry cX7_mayMarry 3 (some .boolean)]
def wsL_law_r32 : List Cond := [Cond.fieldLink RX7 41 "OneJohn$Land" "now" "LOneJohn$Now;", Cond.fieldLink RX7 45 "OneJohn$Now" "names" "[I", Cond.methodLink RX7 50 yX1_quarrel, Cond.methodLink RL 107 yX9_married, Cond.instanceMethod yX9_married, Cond.selects RX9 yX9_married yX9_married, Cond.code yX9_married cX9_married 8 (some .int), Cond.methodLink RX9 225 yX9_pairs, Cond.instanceMethod yX9_pairs, Cond.selects RX9 yX9_pairs yX9_pairs, Cond.code yX9_pairs cX9_pairs 6 none, Cond.methodLink RX9 221 yX9_mayMarry, Cond.instanceMethod yX9_mayMarry, Cond.selects RX9 yX9_mayMarry yX9_mayMarry, Cond.code yX9_mayMarry cX9_mayMarry 3 (some .boolean), Cond.methodLink RL 108 yX8_odds, Cond.instanceMethod yX8_odds, Cond.selects RX8 yX8_odds yX8_odds, Cond.code yX8_odds cX8_odds 8 (some .int), Cond.fieldLink RX8 252 "OneJohn$Land" "nameCount" "I", Cond.methodLink RX8 249 yX8_christenings, Cond.instanceMethod yX8_christenings, Cond.selects RX8 yX8_christenings yX8_christenings, Cond.code yX8_christenings cX8_christenings 5 (some .int)]
def wsL_law_r33 : List Cond := [Cond.methodLink RX8 258 yX8_choices, Cond.static yX8_choices, Cond.code yX8_choices cX8_choices 4 (some .int), Cond.methodLink RX8 255 yX8_power, Cond.static yX8_power, Cond.code yX8_power cX8_power 4 (some .int), Cond.methodLink RL 112 yX9_odds, Cond.instanceMethod yX9_odds, Cond.selects RX9 yX9_odds yX9_odds, Cond.code yX9_odds cX9_odds 7 (some .int), Cond.methodLink RX9 228 yX9_power, Cond.static yX9_power, Cond.code yX9_power cX9_power 4 (some .int), Cond.methodLink RL 113 yX8_rate, Cond.instanceMethod yX8_rate, Cond.selects RX8 yX8_rate yX8_rate, Cond.code yX8_rate cX8_rate 3 (some .int), Cond.constant RX8 261 (-1000000), Cond.methodLink RX8 262 yX8_rateAs, Cond.instanceMethod yX8_rateAs, Cond.selects RX8 yX8_rateAs yX8_rateAs, Cond.code yX8_rateAs cX8_rateAs 3 (some .int), Cond.fieldLink RX8 265 "OneJohn" "MARKS" "[I", Cond.methodLink RL 116 yX9_rate]
def wsL_law_r34 : List Cond := [Cond.instanceMethod yX9_rate, Cond.selects RX9 yX9_rate yX9_rate, Cond.code yX9_rate cX9_rate 6 (some .int), Cond.constant RX9 231 (-1000000), Cond.fieldLink RX9 232 "OneJohnModel" "trace" "J", Cond.constantLong RX9 236 (11), Cond.constantLong RX9 238 (101), Cond.constantLong RX9 240 (1011), Cond.constantLong RX9 242 (10101), Cond.constantLong RX9 244 (100001), Cond.methodLink RL 117 yX8_keep, Cond.instanceMethod yX8_keep, Cond.selects RX8 yX8_keep yX8_keep, Cond.code yX8_keep cX8_keep 2 (some .int), Cond.methodLink RX8 268 yX2_take, Cond.methodLink RL 120 yX9_keep, Cond.instanceMethod yX9_keep, Cond.selects RX9 yX9_keep yX9_keep, Cond.code yX9_keep cX9_keep 3 (some .int), Cond.methodLink RL 121 yX8_back, Cond.instanceMethod yX8_back, Cond.selects RX8 yX8_back yX8_back, Cond.code yX8_back cX8_back 2 (some .int), Cond.methodLink RL 124 yX9_back]
def wsL_law_r35 : List Cond := [Cond.instanceMethod yX9_back, Cond.selects RX9 yX9_back yX9_back, Cond.code yX9_back cX9_back 3 (some .int), Cond.methodLink RL 125 yX8_count, Cond.instanceMethod yX8_count, Cond.selects RX8 yX8_count yX8_count, Cond.code yX8_count cX8_count 2 (some .int), Cond.methodLink RL 128 yX9_count, Cond.instanceMethod yX9_count, Cond.selects RX9 yX9_count yX9_count, Cond.code yX9_count cX9_count 2 (some .int), Cond.methodLink RL 129 yX8_trace, Cond.instanceMethod yX8_trace, Cond.selects RX8 yX8_trace yX8_trace, Cond.code yX8_trace cX8_trace 1 (some .long), Cond.methodLink RL 133 yX9_trace, Cond.instanceMethod yX9_trace, Cond.selects RX9 yX9_trace yX9_trace, Cond.code yX9_trace cX9_trace 1 (some .long)]
def wsL_law : List Cond := (wsL_law_r1 ++ (wsL_law_r2 ++ (wsL_law_r3 ++ (wsL_law_r4 ++ (wsL_law_r5 ++ (wsL_law_r6 ++ (wsL_law_r7 ++ (wsL_law_r8 ++ (wsL_law_r9 ++ (wsL_law_r10 ++ (wsL_law_r11 ++ (wsL_law_r12 ++ (wsL_law_r13 ++ (wsL_law_r14 ++ (wsL_law_r15 ++ (wsL_law_r16 ++ (wsL_law_r17 ++ (wsL_law_r18 ++ (wsL_law_r19 ++ (wsL_law_r20 ++ (wsL_law_r21 ++ (wsL_law_r22 ++ (wsL_law_r23 ++ (wsL_law_r24 ++ (wsL_law_r25 ++ (wsL_law_r26 ++ (wsL_law_r27 ++ (wsL_law_r28 ++ (wsL_law_r29 ++ (wsL_law_r30 ++ (wsL_law_r31 ++ (wsL_law_r32 ++ (wsL_law_r33 ++ (wsL_law_r34 ++ wsL_law_r35)))))))))))))))))))))))))))))))))) ++ wsX80 ++ wsX90 ++ wsX60 ++ wsX40 ++ wsX10 ++ wsX30 ++ wsX00 ++ wsX50 ++ wsX70 ++ wsX20 ++ ([] : List Cond)
abbrev BW : List Cond := wsL_law
theorem bw_wsL_law_r1 : ∀ w ∈ wsL_law_r1, w ∈ BW := fun _ h => (List.mem_append_left _ (List.mem_append_left _ (List.mem_append_left _ (List.mem_append_left _ (List.mem_append_left _ (List.mem_append_left _ (List.mem_append_left _ (List.mem_append_left _ (List.mem_append_left _ (List.mem_append_left _ (List.mem_append_left _ (List.mem_append_left _ h))))))))))))
theorem bw_wsL_law_r2 : ∀ w ∈ wsL_law_r2, w ∈ BW := fun _ h => (List.mem_append_left _ (List.mem_append_left _ (List.mem_append_left _ (List.mem_append_left _ (List.mem_append_left _ (List.mem_append_left _ (List.mem_append_left _ (List.mem_append_left _ (List.mem_append_left _ (List.mem_append_left _ (List.mem_append_left _ (List.mem_append_right _ (List.mem_append_left _ h)))))))))))))
theorem bw_wsL_law_r3 : ∀ w ∈ wsL_law_r3, w ∈ BW := fun _ h => (List.mem_append_left _ (List.mem_append_left _ (List.mem_append_left _ (List.mem_append_left _ (List.mem_append_left _ (List.mem_append_left _ (List.mem_append_left _ (List.mem_append_left _ (List.mem_append_left _ (List.mem_append_left _ (List.mem_append_left _ (List.mem_append_right _ (List.mem_append_right _ (List.mem_append_left _ h))))))))))))))
theorem bw_wsL_law_r4 : ∀ w ∈ wsL_law_r4, w ∈ BW := fun _ h => (List.mem_append_left _ (List.mem_append_left _ (List.mem_append_left _ (List.mem_append_left _ (List.mem_append_left _ (List.mem_append_left _ (List.mem_append_left _ (List.mem_append_left _ (List.mem_append_left _ (List.mem_append_left _ (List.mem_append_left _ (List.mem_append_right _ (List.mem_append_right _ (List.mem_append_right _ (List.mem_append_left _ h)))))))))))))))
theorem bw_wsL_law_r5 : ∀ w ∈ wsL_law_r5, w ∈ BW := fun _ h => (List.mem_append_left _ (List.mem_append_left _ (List.mem_append_left _ (List.mem_append_left _ (List.mem_append_left _ (List.mem_append_left _ (List.mem_append_left _ (List.mem_append_left _ (List.mem_append_left _ (List.mem_append_left _ (List.mem_append_left _ (List.mem_append_right _ (List.mem_append_right _ (List.mem_append_right _ (List.mem_append_right _ (List.mem_append_left _ h))))))))))))))))
theorem bw_wsL_law_r6 : ∀ w ∈ wsL_law_r6, w ∈ BW := fun _ h => (List.mem_append_left _ (List.mem_append_left _ (List.mem_append_left _ (List.mem_append_left _ (List.mem_append_left _ (List.mem_append_left _ (List.mem_append_left _ (List.mem_append_left _ (List.mem_append_left _ (List.mem_append_left _ (List.mem_append_left _ (List.mem_append_right _ (List.mem_append_right _ (List.mem_append_right _ (List.mem_append_right _ (List.mem_append_right _ (List.mem_append_left _ h)))))))))))))))))
theorem bw_wsL_law_r7 : ∀ w ∈ wsL_law_r7, w ∈ BW := fun _ h => (List.mem_append_left _ (List.mem_append_left _ (List.mem_append_left _ (List.mem_append_left _ (List.mem_append_left _ (List.mem_append_left _ (List.mem_append_left _ (List.mem_append_left _ (List.mem_append_left _ (List.mem_append_left _ (List.mem_append_left _ (List.mem_append_right _ (List.mem_append_right _ (List.mem_append_right _ (List.mem_append_right _ (List.mem_append_right _ (List.mem_append_right _ (List.mem_append_left _ h))))))))))))))))))
theorem bw_wsL_law_r8 : ∀ w ∈ wsL_law_r8, w ∈ BW := fun _ h => (List.mem_append_left _ (List.mem_append_left _ (List.mem_append_left _ (List.mem_append_left _ (List.mem_append_left _ (List.mem_append_left _ (List.mem_append_left _ (List.mem_append_left _ (List.mem_append_left _ (List.mem_append_left _ (List.mem_append_left _ (List.mem_append_right _ (List.mem_append_right _ (List.mem_append_right _ (List.mem_append_right _ (List.mem_append_right _ (List.mem_append_right _ (List.mem_append_right _ (List.mem_append_left _ h)))))))))))))))))))
theorem bw_wsL_law_r9 : ∀ w ∈ wsL_law_r9, w ∈ BW := fun _ h => (List.mem_append_left _ (List.mem_append_left _ (List.mem_append_left _ (List.mem_append_left _ (List.mem_append_left _ (List.mem_append_left _ (List.mem_append_left _ (List.mem_append_left _ (List.mem_append_left _ (List.mem_append_left _ (List.mem_append_left _ (List.mem_append_right _ (List.mem_append_right _ (List.mem_append_right _ (List.mem_append_right _ (List.mem_append_right _ (List.mem_append_right _ (List.mem_append_right _ (List.mem_append_right _ (List.mem_append_left _ h))))))))))))))))))))
theorem bw_wsL_law_r10 : ∀ w ∈ wsL_law_r10, w ∈ BW := fun _ h => (List.mem_append_left _ (List.mem_append_left _ (List.mem_append_left _ (List.mem_append_left _ (List.mem_append_left _ (List.mem_append_left _ (List.mem_append_left _ (List.mem_append_left _ (List.mem_append_left _ (List.mem_append_left _ (List.mem_append_left _ (List.mem_append_right _ (List.mem_append_right _ (List.mem_append_right _ (List.mem_append_right _ (List.mem_append_right _ (List.mem_append_right _ (List.mem_append_right _ (List.mem_append_right _ (List.mem_append_right _ (List.mem_append_left _ h)))))))))))))))))))))
theorem bw_wsL_law_r11 : ∀ w ∈ wsL_law_r11, w ∈ BW := fun _ h => (List.mem_append_left _ (List.mem_append_left _ (List.mem_append_left _ (List.mem_append_left _ (List.mem_append_left _ (List.mem_append_left _ (List.mem_append_left _ (List.mem_append_left _ (List.mem_append_left _ (List.mem_append_left _ (List.mem_append_left _ (List.mem_append_right _ (List.mem_append_right _ (List.mem_append_right _ (List.mem_append_right _ (List.mem_append_right _ (List.mem_append_right _ (List.mem_append_right _ (List.mem_append_right _ (List.mem_append_right _ (List.mem_append_right _ (List.mem_append_left _ h))))))))))))))))))))))
theorem bw_wsL_law_r12 : ∀ w ∈ wsL_law_r12, w ∈ BW := fun _ h => (List.mem_append_left _ (List.mem_append_left _ (List.mem_append_left _ (List.mem_append_left _ (List.mem_append_left _ (List.mem_append_left _ (List.mem_append_left _ (List.mem_append_left _ (List.mem_append_left _ (List.mem_append_left _ (List.mem_append_left _ (List.mem_append_right _ (List.mem_append_right _ (List.mem_append_right _ (List.mem_append_right _ (List.mem_append_right _ (List.mem_append_right _ (List.mem_append_right _ (List.mem_append_right _ (List.mem_append_right _ (List.mem_append_right _ (List.mem_append_right _ (List.mem_append_left _ h)))))))))))))))))))))))
theorem bw_wsL_law_r13 : ∀ w ∈ wsL_law_r13, w ∈ BW := fun _ h => (List.mem_append_left _ (List.mem_append_left _ (List.mem_append_left _ (List.mem_append_left _ (List.mem_append_left _ (List.mem_append_left _ (List.mem_append_left _ (List.mem_append_left _ (List.mem_append_left _ (List.mem_append_left _ (List.mem_append_left _ (List.mem_append_right _ (List.mem_append_right _ (List.mem_append_right _ (List.mem_append_right _ (List.mem_append_right _ (List.mem_append_right _ (List.mem_append_right _ (List.mem_append_right _ (List.mem_append_right _ (List.mem_append_right _ (List.mem_append_right _ (List.mem_append_right _ (List.mem_append_left _ h))))))))))))))))))))))))
theorem bw_wsL_law_r14 : ∀ w ∈ wsL_law_r14, w ∈ BW := fun _ h => (List.mem_append_left _ (List.mem_append_left _ (List.mem_append_left _ (List.mem_append_left _ (List.mem_append_left _ (List.mem_append_left _ (List.mem_append_left _ (List.mem_append_left _ (List.mem_append_left _ (List.mem_append_left _ (List.mem_append_left _ (List.mem_append_right _ (List.mem_append_right _ (List.mem_append_right _ (List.mem_append_right _ (List.mem_append_right _ (List.mem_append_right _ (List.mem_append_right _ (List.mem_append_right _ (List.mem_append_right _ (List.mem_append_right _ (List.mem_append_right _ (List.mem_append_right _ (List.mem_append_right _ (List.mem_append_left _ h)))))))))))))))))))))))))
theorem bw_wsL_law_r15 : ∀ w ∈ wsL_law_r15, w ∈ BW := fun _ h => (List.mem_append_left _ (List.mem_append_left _ (List.mem_append_left _ (List.mem_append_left _ (List.mem_append_left _ (List.mem_append_left _ (List.mem_append_left _ (List.mem_append_left _ (List.mem_append_left _ (List.mem_append_left _ (List.mem_append_left _ (List.mem_append_right _ (List.mem_append_right _ (List.mem_append_right _ (List.mem_append_right _ (List.mem_append_right _ (List.mem_append_right _ (List.mem_append_right _ (List.mem_append_right _ (List.mem_append_right _ (List.mem_append_right _ (List.mem_append_right _ (List.mem_append_right _ (List.mem_append_right _ (List.mem_append_right _ (List.mem_append_left _ h))))))))))))))))))))))))))
theorem bw_wsL_law_r16 : ∀ w ∈ wsL_law_r16, w ∈ BW := fun _ h => (List.mem_append_left _ (List.mem_append_left _ (List.mem_append_left _ (List.mem_append_left _ (List.mem_append_left _ (List.mem_append_left _ (List.mem_append_left _ (List.mem_append_left _ (List.mem_append_left _ (List.mem_append_left _ (List.mem_append_left _ (List.mem_append_right _ (List.mem_append_right _ (List.mem_append_right _ (List.mem_append_right _ (List.mem_append_right _ (List.mem_append_right _ (List.mem_append_right _ (List.mem_append_right _ (List.mem_append_right _ (List.mem_append_right _ (List.mem_append_right _ (List.mem_append_right _ (List.mem_append_right _ (List.mem_append_right _ (List.mem_append_right _ (List.mem_append_left _ h)))))))))))))))))))))))))))
theorem bw_wsL_law_r17 : ∀ w ∈ wsL_law_r17, w ∈ BW := fun _ h => (List.mem_append_left _ (List.mem_append_left _ (List.mem_append_left _ (List.mem_append_left _ (List.mem_append_left _ (List.mem_append_left _ (List.mem_append_left _ (List.mem_append_left _ (List.mem_append_left _ (List.mem_append_left _ (List.mem_append_left _ (List.mem_append_right _ (List.mem_append_right _ (List.mem_append_right _ (List.mem_append_right _ (List.mem_append_right _ (List.mem_append_right _ (List.mem_append_right _ (List.mem_append_right _ (List.mem_append_right _ (List.mem_append_right _ (List.mem_append_right _ (List.mem_append_right _ (List.mem_append_right _ (List.mem_append_right _ (List.mem_append_right _ (List.mem_append_right _ (List.mem_append_left _ h))))))))))))))))))))))))))))
theorem bw_wsL_law_r18 : ∀ w ∈ wsL_law_r18, w ∈ BW := fun _ h => (List.mem_append_left _ (List.mem_append_left _ (List.mem_append_left _ (List.mem_append_left _ (List.mem_append_left _ (List.mem_append_left _ (List.mem_append_left _ (List.mem_append_left _ (List.mem_append_left _ (List.mem_append_left _ (List.mem_append_left _ (List.mem_append_right _ (List.mem_append_right _ (List.mem_append_right _ (List.mem_append_right _ (List.mem_append_right _ (List.mem_append_right _ (List.mem_append_right _ (List.mem_append_right _ (List.mem_append_right _ (List.mem_append_right _ (List.mem_append_right _ (List.mem_append_right _ (List.mem_append_right _ (List.mem_append_right _ (List.mem_append_right _ (List.mem_append_right _ (List.mem_append_right _ (List.mem_append_left _ h)))))))))))))))))))))))))))))
theorem bw_wsL_law_r19 : ∀ w ∈ wsL_law_r19, w ∈ BW := fun _ h => (List.mem_append_left _ (List.mem_append_left _ (List.mem_append_left _ (List.mem_append_left _ (List.mem_append_left _ (List.mem_append_left _ (List.mem_append_left _ (List.mem_append_left _ (List.mem_append_left _ (List.mem_append_left _ (List.mem_append_left _ (List.mem_append_right _ (List.mem_append_right _ (List.mem_append_right _ (List.mem_append_right _ (List.mem_append_right _ (List.mem_append_right _ (List.mem_append_right _ (List.mem_append_right _ (List.mem_append_right _ (List.mem_append_right _ (List.mem_append_right _ (List.mem_append_right _ (List.mem_append_right _ (List.mem_append_right _ (List.mem_append_right _ (List.mem_append_right _ (List.mem_append_right _ (List.mem_append_right _ (List.mem_append_left _ h))))))))))))))))))))))))))))))
theorem bw_wsL_law_r20 : ∀ w ∈ wsL_law_r20, w ∈ BW := fun _ h => (List.mem_append_left _ (List.mem_append_left _ (List.mem_append_left _ (List.mem_append_left _ (List.mem_append_left _ (List.mem_append_left _ (List.mem_append_left _ (List.mem_append_left _ (List.mem_append_left _ (List.mem_append_left _ (List.mem_append_left _ (List.mem_append_right _ (List.mem_append_right _ (List.mem_append_right _ (List.mem_append_right _ (List.mem_append_right _ (List.mem_append_right _ (List.mem_append_right _ (List.mem_append_right _ (List.mem_append_right _ (List.mem_append_right _ (List.mem_append_right _ (List.mem_append_right _ (List.mem_append_right _ (List.mem_append_right _ (List.mem_append_right _ (List.mem_append_right _ (List.mem_append_right _ (List.mem_append_right _ (List.mem_append_right _ (List.mem_append_left _ h)))))))))))))))))))))))))))))))
theorem bw_wsL_law_r21 : ∀ w ∈ wsL_law_r21, w ∈ BW := fun _ h => (List.mem_append_left _ (List.mem_append_left _ (List.mem_append_left _ (List.mem_append_left _ (List.mem_append_left _ (List.mem_append_left _ (List.mem_append_left _ (List.mem_append_left _ (List.mem_append_left _ (List.mem_append_left _ (List.mem_append_left _ (List.mem_append_right _ (List.mem_append_right _ (List.mem_append_right _ (List.mem_append_right _ (List.mem_append_right _ (List.mem_append_right _ (List.mem_append_right _ (List.mem_append_right _ (List.mem_append_right _ (List.mem_append_right _ (List.mem_append_right _ (List.mem_append_right _ (List.mem_append_right _ (List.mem_append_right _ (List.mem_append_right _ (List.mem_append_right _ (List.mem_append_right _ (List.mem_append_right _ (List.mem_append_right _ (List.mem_append_right _ (List.mem_append_left _ h))))))))))))))))))))))))))))))))
theorem bw_wsL_law_r22 : ∀ w ∈ wsL_law_r22, w ∈ BW := fun _ h => (List.mem_append_left _ (List.mem_append_left _ (List.mem_append_left _ (List.mem_append_left _ (List.mem_append_left _ (List.mem_append_left _ (List.mem_append_left _ (List.mem_append_left _ (List.mem_append_left _ (List.mem_append_left _ (List.mem_append_left _ (List.mem_append_right _ (List.mem_append_right _ (List.mem_append_right _ (List.mem_append_right _ (List.mem_append_right _ (List.mem_append_right _ (List.mem_append_right _ (List.mem_append_right _ (List.mem_append_right _ (List.mem_append_right _ (List.mem_append_right _ (List.mem_append_right _ (List.mem_append_right _ (List.mem_append_right _ (List.mem_append_right _ (List.mem_append_right _ (List.mem_append_right _ (List.mem_append_right _ (List.mem_append_right _ (List.mem_append_right _ (List.mem_append_right _ (List.mem_append_left _ h)))))))))))))))))))))))))))))))))
theorem bw_wsL_law_r23 : ∀ w ∈ wsL_law_r23, w ∈ BW := fun _ h => (List.mem_append_left _ (List.mem_append_left _ (List.mem_append_left _ (List.mem_append_left _ (List.mem_append_left _ (List.mem_append_left _ (List.mem_append_left _ (List.mem_append_left _ (List.mem_append_left _ (List.mem_append_left _ (List.mem_append_left _ (List.mem_append_right _ (List.mem_append_right _ (List.mem_append_right _ (List.mem_append_right _ (List.mem_append_right _ (List.mem_append_right _ (List.mem_append_right _ (List.mem_append_right _ (List.mem_append_right _ (List.mem_append_right _ (List.mem_append_right _ (List.mem_append_right _ (List.mem_append_right _ (List.mem_append_right _ (List.mem_append_right _ (List.mem_append_right _ (List.mem_append_right _ (List.mem_append_right _ (List.mem_append_right _ (List.mem_append_right _ (List.mem_append_right _ (List.mem_append_right _ (List.mem_append_left _ h))))))))))))))))))))))))))))))))))
theorem bw_wsL_law_r24 : ∀ w ∈ wsL_law_r24, w ∈ BW := fun _ h => (List.mem_append_left _ (List.mem_append_left _ (List.mem_append_left _ (List.mem_append_left _ (List.mem_append_left _ (List.mem_append_left _ (List.mem_append_left _ (List.mem_append_left _ (List.mem_append_left _ (List.mem_append_left _ (List.mem_append_left _ (List.mem_append_right _ (List.mem_append_right _ (List.mem_append_right _ (List.mem_append_right _ (List.mem_append_right _ (List.mem_append_right _ (List.mem_append_right _ (List.mem_append_right _ (List.mem_append_right _ (List.mem_append_right _ (List.mem_append_right _ (List.mem_append_right _ (List.mem_append_right _ (List.mem_append_right _ (List.mem_append_right _ (List.mem_append_right _ (List.mem_append_right _ (List.mem_append_right _ (List.mem_append_right _ (List.mem_append_right _ (List.mem_append_right _ (List.mem_append_right _ (List.mem_append_right _ (List.mem_append_left _ h)))))))))))))))))))))))))))))))))))
theorem bw_wsL_law_r25 : ∀ w ∈ wsL_law_r25, w ∈ BW := fun _ h => (List.mem_append_left _ (List.mem_append_left _ (List.mem_append_left _ (List.mem_append_left _ (List.mem_append_left _ (List.mem_append_left _ (List.mem_append_left _ (List.mem_append_left _ (List.mem_append_left _ (List.mem_append_left _ (List.mem_append_left _ (List.mem_append_right _ (List.mem_append_right _ (List.mem_append_right _ (List.mem_append_right _ (List.mem_append_right _ (List.mem_append_right _ (List.mem_append_right _ (List.mem_append_right _ (List.mem_append_right _ (List.mem_append_right _ (List.mem_append_right _ (List.mem_append_right _ (List.mem_append_right _ (List.mem_append_right _ (List.mem_append_right _ (List.mem_append_right _ (List.mem_append_right _ (List.mem_append_right _ (List.mem_append_right _ (List.mem_append_right _ (List.mem_append_right _ (List.mem_append_right _ (List.mem_append_right _ (List.mem_append_right _ (List.mem_append_left _ h))))))))))))))))))))))))))))))))))))
theorem bw_wsL_law_r26 : ∀ w ∈ wsL_law_r26, w ∈ BW := fun _ h => (List.mem_append_left _ (List.mem_append_left _ (List.mem_append_left _ (List.mem_append_left _ (List.mem_append_left _ (List.mem_append_left _ (List.mem_append_left _ (List.mem_append_left _ (List.mem_append_left _ (List.mem_append_left _ (List.mem_append_left _ (List.mem_append_right _ (List.mem_append_right _ (List.mem_append_right _ (List.mem_append_right _ (List.mem_append_right _ (List.mem_append_right _ (List.mem_append_right _ (List.mem_append_right _ (List.mem_append_right _ (List.mem_append_right _ (List.mem_append_right _ (List.mem_append_right _ (List.mem_append_right _ (List.mem_append_right _ (List.mem_append_right _ (List.mem_append_right _ (List.mem_append_right _ (List.mem_append_right _ (List.mem_append_right _ (List.mem_append_right _ (List.mem_append_right _ (List.mem_append_right _ (List.mem_append_right _ (List.mem_append_right _ (List.mem_append_right _ (List.mem_append_left _ h)))))))))))))))))))))))))))))))))))))
theorem bw_wsL_law_r27 : ∀ w ∈ wsL_law_r27, w ∈ BW := fun _ h => (List.mem_append_left _ (List.mem_append_left _ (List.mem_append_left _ (List.mem_append_left _ (List.mem_append_left _ (List.mem_append_left _ (List.mem_append_left _ (List.mem_append_left _ (List.mem_append_left _ (List.mem_append_left _ (List.mem_append_left _ (List.mem_append_right _ (List.mem_append_right _ (List.mem_append_right _ (List.mem_append_right _ (List.mem_append_right _ (List.mem_append_right _ (List.mem_append_right _ (List.mem_append_right _ (List.mem_append_right _ (List.mem_append_right _ (List.mem_append_right _ (List.mem_append_right _ (List.mem_append_right _ (List.mem_append_right _ (List.mem_append_right _ (List.mem_append_right _ (List.mem_append_right _ (List.mem_append_right _ (List.mem_append_right _ (List.mem_append_right _ (List.mem_append_right _ (List.mem_append_right _ (List.mem_append_right _ (List.mem_append_right _ (List.mem_append_right _ (List.mem_append_right _ (List.mem_append_left _ h))))))))))))))))))))))))))))))))))))))
theorem bw_wsL_law_r28 : ∀ w ∈ wsL_law_r28, w ∈ BW := fun _ h => (List.mem_append_left _ (List.mem_append_left _ (List.mem_append_left _ (List.mem_append_left _ (List.mem_append_left _ (List.mem_append_left _ (List.mem_append_left _ (List.mem_append_left _ (List.mem_append_left _ (List.mem_append_left _ (List.mem_append_left _ (List.mem_append_right _ (List.mem_append_right _ (List.mem_append_right _ (List.mem_append_right _ (List.mem_append_right _ (List.mem_append_right _ (List.mem_append_right _ (List.mem_append_right _ (List.mem_append_right _ (List.mem_append_right _ (List.mem_append_right _ (List.mem_append_right _ (List.mem_append_right _ (List.mem_append_right _ (List.mem_append_right _ (List.mem_append_right _ (List.mem_append_right _ (List.mem_append_right _ (List.mem_append_right _ (List.mem_append_right _ (List.mem_append_right _ (List.mem_append_right _ (List.mem_append_right _ (List.mem_append_right _ (List.mem_append_right _ (List.mem_append_right _ (List.mem_append_right _ (List.mem_append_left _ h)))))))))))))))))))))))))))))))))))))))
theorem bw_wsL_law_r29 : ∀ w ∈ wsL_law_r29, w ∈ BW := fun _ h => (List.mem_append_left _ (List.mem_append_left _ (List.mem_append_left _ (List.mem_append_left _ (List.mem_append_left _ (List.mem_append_left _ (List.mem_append_left _ (List.mem_append_left _ (List.mem_append_left _ (List.mem_append_left _ (List.mem_append_left _ (List.mem_append_right _ (List.mem_append_right _ (List.mem_append_right _ (List.mem_append_right _ (List.mem_append_right _ (List.mem_append_right _ (List.mem_append_right _ (List.mem_append_right _ (List.mem_append_right _ (List.mem_append_right _ (List.mem_append_right _ (List.mem_append_right _ (List.mem_append_right _ (List.mem_append_right _ (List.mem_append_right _ (List.mem_append_right _ (List.mem_append_right _ (List.mem_append_right _ (List.mem_append_right _ (List.mem_append_right _ (List.mem_append_right _ (List.mem_append_right _ (List.mem_append_right _ (List.mem_append_right _ (List.mem_append_right _ (List.mem_append_right _ (List.mem_append_right _ (List.mem_append_right _ (List.mem_append_left _ h))))))))))))))))))))))))))))))))))))))))
theorem bw_wsL_law_r30 : ∀ w ∈ wsL_law_r30, w ∈ BW := fun _ h => (List.mem_append_left _ (List.mem_append_left _ (List.mem_append_left _ (List.mem_append_left _ (List.mem_append_left _ (List.mem_append_left _ (List.mem_append_left _ (List.mem_append_left _ (List.mem_append_left _ (List.mem_append_left _ (List.mem_append_left _ (List.mem_append_right _ (List.mem_append_right _ (List.mem_append_right _ (List.mem_append_right _ (List.mem_append_right _ (List.mem_append_right _ (List.mem_append_right _ (List.mem_append_right _ (List.mem_append_right _ (List.mem_append_right _ (List.mem_append_right _ (List.mem_append_right _ (List.mem_append_right _ (List.mem_append_right _ (List.mem_append_right _ (List.mem_append_right _ (List.mem_append_right _ (List.mem_append_right _ (List.mem_append_right _ (List.mem_append_right _ (List.mem_append_right _ (List.mem_append_right _ (List.mem_append_right _ (List.mem_append_right _ (List.mem_append_right _ (List.mem_append_right _ (List.mem_append_right _ (List.mem_append_right _ (List.mem_append_right _ (List.mem_append_left _ h)))))))))))))))))))))))))))))))))))))))))
theorem bw_wsL_law_r31 : ∀ w ∈ wsL_law_r31, w ∈ BW := fun _ h => (List.mem_append_left _ (List.mem_append_left _ (List.mem_append_left _ (List.mem_append_left _ (List.mem_append_left _ (List.mem_append_left _ (List.mem_append_left _ (List.mem_append_left _ (List.mem_append_left _ (List.mem_append_left _ (List.mem_append_left _ (List.mem_append_right _ (List.mem_append_right _ (List.mem_append_right _ (List.mem_append_right _ (List.mem_append_right _ (List.mem_append_right _ (List.mem_append_right _ (List.mem_append_right _ (List.mem_append_right _ (List.mem_append_right _ (List.mem_append_right _ (List.mem_append_right _ (List.mem_append_right _ (List.mem_append_right _ (List.mem_append_right _ (List.mem_append_right _ (List.mem_append_right _ (List.mem_append_right _ (List.mem_append_right _ (List.mem_append_right _ (List.mem_append_right _ (List.mem_append_right _ (List.mem_append_right _ (List.mem_append_right _ (List.mem_append_right _ (List.mem_append_right _ (List.mem_append_right _ (List.mem_append_right _ (List.mem_append_right _ (List.mem_append_right _ (List.mem_append_left _ h))))))))))))))))))))))))))))))))))))))))))
theorem bw_wsL_law_r32 : ∀ w ∈ wsL_law_r32, w ∈ BW := fun _ h => (List.mem_append_left _ (List.mem_append_left _ (List.mem_append_left _ (List.mem_append_left _ (List.mem_append_left _ (List.mem_append_left _ (List.mem_append_left _ (List.mem_append_left _ (List.mem_append_left _ (List.mem_append_left _ (List.mem_append_left _ (List.mem_append_right _ (List.mem_append_right _ (List.mem_append_right _ (List.mem_append_right _ (List.mem_append_right _ (List.mem_append_right _ (List.mem_append_right _ (List.mem_append_right _ (List.mem_append_right _ (List.mem_append_right _ (List.mem_append_right _ (List.mem_append_right _ (List.mem_append_right _ (List.mem_append_right _ (List.mem_append_right _ (List.mem_append_right _ (List.mem_append_right _ (List.mem_append_right _ (List.mem_append_right _ (List.mem_append_right _ (List.mem_append_right _ (List.mem_append_right _ (List.mem_append_right _ (List.mem_append_right _ (List.mem_append_right _ (List.mem_append_right _ (List.mem_append_right _ (List.mem_append_right _ (List.mem_append_right _ (List.mem_append_right _ (List.mem_append_right _ (List.mem_append_left _ h)))))))))))))))))))))))))))))))))))))))))))
theorem bw_wsL_law_r33 : ∀ w ∈ wsL_law_r33, w ∈ BW := fun _ h => (List.mem_append_left _ (List.mem_append_left _ (List.mem_append_left _ (List.mem_append_left _ (List.mem_append_left _ (List.mem_append_left _ (List.mem_append_left _ (List.mem_append_left _ (List.mem_append_left _ (List.mem_append_left _ (List.mem_append_left _ (List.mem_append_right _ (List.mem_append_right _ (List.mem_append_right _ (List.mem_append_right _ (List.mem_append_right _ (List.mem_append_right _ (List.mem_append_right _ (List.mem_append_right _ (List.mem_append_right _ (List.mem_append_right _ (List.mem_append_right _ (List.mem_append_right _ (List.mem_append_right _ (List.mem_append_right _ (List.mem_append_right _ (List.mem_append_right _ (List.mem_append_right _ (List.mem_append_right _ (List.mem_append_right _ (List.mem_append_right _ (List.mem_append_right _ (List.mem_append_right _ (List.mem_append_right _ (List.mem_append_right _ (List.mem_append_right _ (List.mem_append_right _ (List.mem_append_right _ (List.mem_append_right _ (List.mem_append_right _ (List.mem_append_right _ (List.mem_append_right _ (List.mem_append_right _ (List.mem_append_left _ h))))))))))))))))))))))))))))))))))))))))))))
theorem bw_wsL_law_r34 : ∀ w ∈ wsL_law_r34, w ∈ BW := fun _ h => (List.mem_append_left _ (List.mem_append_left _ (List.mem_append_left _ (List.mem_append_left _ (List.mem_append_left _ (List.mem_append_left _ (List.mem_append_left _ (List.mem_append_left _ (List.mem_append_left _ (List.mem_append_left _ (List.mem_append_left _ (List.mem_append_right _ (List.mem_append_right _ (List.mem_append_right _ (List.mem_append_right _ (List.mem_append_right _ (List.mem_append_right _ (List.mem_append_right _ (List.mem_append_right _ (List.mem_append_right _ (List.mem_append_right _ (List.mem_append_right _ (List.mem_append_right _ (List.mem_append_right _ (List.mem_append_right _ (List.mem_append_right _ (List.mem_append_right _ (List.mem_append_right _ (List.mem_append_right _ (List.mem_append_right _ (List.mem_append_right _ (List.mem_append_right _ (List.mem_append_right _ (List.mem_append_right _ (List.mem_append_right _ (List.mem_append_right _ (List.mem_append_right _ (List.mem_append_right _ (List.mem_append_right _ (List.mem_append_right _ (List.mem_append_right _ (List.mem_append_right _ (List.mem_append_right _ (List.mem_append_right _ (List.mem_append_left _ h)))))))))))))))))))))))))))))))))))))))))))))
theorem bw_wsL_law_r35 : ∀ w ∈ wsL_law_r35, w ∈ BW := fun _ h => (List.mem_append_left _ (List.mem_append_left _ (List.mem_append_left _ (List.mem_append_left _ (List.mem_append_left _ (List.mem_append_left _ (List.mem_append_left _ (List.mem_append_left _ (List.mem_append_left _ (List.mem_append_left _ (List.mem_append_left _ (List.mem_append_right _ (List.mem_append_right _ (List.mem_append_right _ (List.mem_append_right _ (List.mem_append_right _ (List.mem_append_right _ (List.mem_append_right _ (List.mem_append_right _ (List.mem_append_right _ (List.mem_append_right _ (List.mem_append_right _ (List.mem_append_right _ (List.mem_append_right _ (List.mem_append_right _ (List.mem_append_right _ (List.mem_append_right _ (List.mem_append_right _ (List.mem_append_right _ (List.mem_append_right _ (List.mem_append_right _ (List.mem_append_right _ (List.mem_append_right _ (List.mem_append_right _ (List.mem_append_right _ (List.mem_append_right _ (List.mem_append_right _ (List.mem_append_right _ (List.mem_append_right _ (List.mem_append_right _ (List.mem_append_right _ (List.mem_append_right _ (List.mem_append_right _ (List.mem_append_right _ (List.mem_append_right _ h)))))))))))))))))))))))))))))))))))))))))))))
theorem bw_wsX80 : ∀ w ∈ wsX80, w ∈ BW := fun _ h => (List.mem_append_left _ (List.mem_append_left _ (List.mem_append_left _ (List.mem_append_left _ (List.mem_append_left _ (List.mem_append_left _ (List.mem_append_left _ (List.mem_append_left _ (List.mem_append_left _ (List.mem_append_left _ (List.mem_append_right _ h)))))))))))
theorem bw_wsX90 : ∀ w ∈ wsX90, w ∈ BW := fun _ h => (List.mem_append_left _ (List.mem_append_left _ (List.mem_append_left _ (List.mem_append_left _ (List.mem_append_left _ (List.mem_append_left _ (List.mem_append_left _ (List.mem_append_left _ (List.mem_append_left _ (List.mem_append_right _ h))))))))))
theorem bw_wsX60 : ∀ w ∈ wsX60, w ∈ BW := fun _ h => (List.mem_append_left _ (List.mem_append_left _ (List.mem_append_left _ (List.mem_append_left _ (List.mem_append_left _ (List.mem_append_left _ (List.mem_append_left _ (List.mem_append_left _ (List.mem_append_right _ h)))))))))
theorem bw_wsX40 : ∀ w ∈ wsX40, w ∈ BW := fun _ h => (List.mem_append_left _ (List.mem_append_left _ (List.mem_append_left _ (List.mem_append_left _ (List.mem_append_left _ (List.mem_append_left _ (List.mem_append_left _ (List.mem_append_right _ h))))))))
theorem bw_wsX10 : ∀ w ∈ wsX10, w ∈ BW := fun _ h => (List.mem_append_left _ (List.mem_append_left _ (List.mem_append_left _ (List.mem_append_left _ (List.mem_append_left _ (List.mem_append_left _ (List.mem_append_right _ h)))))))
theorem bw_wsX30 : ∀ w ∈ wsX30, w ∈ BW := fun _ h => (List.mem_append_left _ (List.mem_append_left _ (List.mem_append_left _ (List.mem_append_left _ (List.mem_append_left _ (List.mem_append_right _ h))))))
theorem bw_wsX00 : ∀ w ∈ wsX00, w ∈ BW := fun _ h => (List.mem_append_left _ (List.mem_append_left _ (List.mem_append_left _ (List.mem_append_left _ (List.mem_append_right _ h)))))
theorem bw_wsX50 : ∀ w ∈ wsX50, w ∈ BW := fun _ h => (List.mem_append_left _ (List.mem_append_left _ (List.mem_append_left _ (List.mem_append_right _ h))))
theorem bw_wsX70 : ∀ w ∈ wsX70, w ∈ BW := fun _ h => (List.mem_append_left _ (List.mem_append_left _ (List.mem_append_right _ h)))
theorem bw_wsX20 : ∀ w ∈ wsX20, w ∈ BW := fun _ h => (List.mem_append_left _ (List.mem_append_right _ h))
theorem gd_app {a b : List Cond} (ha : ∀ w ∈ a, goodWord w = true) (hb : ∀ w ∈ b, goodWord w = true) : ∀ w ∈ a ++ b, goodWord w = true := fun w h => (List.mem_append.mp h).elim (ha w) (hb w)
theorem gd_wsL_law_r1 : ∀ w ∈ wsL_law_r1, goodWord w = true := List.all_eq_true.mp rfl
theorem gd_wsL_law_r2 : ∀ w ∈ wsL_law_r2, goodWord w = true := List.all_eq_true.mp rfl
theorem gd_wsL_law_r3 : ∀ w ∈ wsL_law_r3, goodWord w = true := List.all_eq_true.mp rfl
theorem gd_wsL_law_r4 : ∀ w ∈ wsL_law_r4, goodWord w = true := List.all_eq_true.mp rfl
theorem gd_wsL_law_r5 : ∀ w ∈ wsL_law_r5, goodWord w = true := List.all_eq_true.mp rfl
theorem gd_wsL_law_r6 : ∀ w ∈ wsL_law_r6, goodWord w = true := List.all_eq_true.mp rfl
theorem gd_wsL_law_r7 : ∀ w ∈ wsL_law_r7, goodWord w = true := List.all_eq_true.mp rfl
theorem gd_wsL_law_r8 : ∀ w ∈ wsL_law_r8, goodWord w = true := List.all_eq_true.mp rfl
theorem gd_wsL_law_r9 : ∀ w ∈ wsL_law_r9, goodWord w = true := List.all_eq_true.mp rfl
theorem gd_wsL_law_r10 : ∀ w ∈ wsL_law_r10, goodWord w = true := List.all_eq_true.mp rfl
theorem gd_wsL_law_r11 : ∀ w ∈ wsL_law_r11, goodWord w = true := List.all_eq_true.mp rfl
theorem gd_wsL_law_r12 : ∀ w ∈ wsL_law_r12, goodWord w = true := List.all_eq_true.mp rfl
theorem gd_wsL_law_r13 : ∀ w ∈ wsL_law_r13, goodWord w = true := List.all_eq_true.mp rfl
theorem gd_wsL_law_r14 : ∀ w ∈ wsL_law_r14, goodWord w = true := List.all_eq_true.mp rfl
theorem gd_wsL_law_r15 : ∀ w ∈ wsL_law_r15, goodWord w = true := List.all_eq_true.mp rfl
theorem gd_wsL_law_r16 : ∀ w ∈ wsL_law_r16, goodWord w = true := List.all_eq_true.mp rfl
theorem gd_wsL_law_r17 : ∀ w ∈ wsL_law_r17, goodWord w = true := List.all_eq_true.mp rfl
theorem gd_wsL_law_r18 : ∀ w ∈ wsL_law_r18, goodWord w = true := List.all_eq_true.mp rfl
theorem gd_wsL_law_r19 : ∀ w ∈ wsL_law_r19, goodWord w = true := List.all_eq_true.mp rfl
theorem gd_wsL_law_r20 : ∀ w ∈ wsL_law_r20, goodWord w = true := List.all_eq_true.mp rfl
theorem gd_wsL_law_r21 : ∀ w ∈ wsL_law_r21, goodWord w = true := List.all_eq_true.mp rfl
theorem gd_wsL_law_r22 : ∀ w ∈ wsL_law_r22, goodWord w = true := List.all_eq_true.mp rfl
theorem gd_wsL_law_r23 : ∀ w ∈ wsL_law_r23, goodWord w = true := List.all_eq_true.mp rfl
theorem gd_wsL_law_r24 : ∀ w ∈ wsL_law_r24, goodWord w = true := List.all_eq_true.mp rfl
theorem gd_wsL_law_r25 : ∀ w ∈ wsL_law_r25, goodWord w = true := List.all_eq_true.mp rfl
theorem gd_wsL_law_r26 : ∀ w ∈ wsL_law_r26, goodWord w = true := List.all_eq_true.mp rfl
theorem gd_wsL_law_r27 : ∀ w ∈ wsL_law_r27, goodWord w = true := List.all_eq_true.mp rfl
theorem gd_wsL_law_r28 : ∀ w ∈ wsL_law_r28, goodWord w = true := List.all_eq_true.mp rfl
theorem gd_wsL_law_r29 : ∀ w ∈ wsL_law_r29, goodWord w = true := List.all_eq_true.mp rfl
theorem gd_wsL_law_r30 : ∀ w ∈ wsL_law_r30, goodWord w = true := List.all_eq_true.mp rfl
theorem gd_wsL_law_r31 : ∀ w ∈ wsL_law_r31, goodWord w = true := List.all_eq_true.mp rfl
theorem gd_wsL_law_r32 : ∀ w ∈ wsL_law_r32, goodWord w = true := List.all_eq_true.mp rfl
theorem gd_wsL_law_r33 : ∀ w ∈ wsL_law_r33, goodWord w = true := List.all_eq_true.mp rfl
theorem gd_wsL_law_r34 : ∀ w ∈ wsL_law_r34, goodWord w = true := List.all_eq_true.mp rfl
theorem gd_wsL_law_r35 : ∀ w ∈ wsL_law_r35, goodWord w = true := List.all_eq_true.mp rfl
theorem gd_wsX80 : ∀ w ∈ wsX80, goodWord w = true := List.all_eq_true.mp rfl
theorem gd_wsX90 : ∀ w ∈ wsX90, goodWord w = true := List.all_eq_true.mp rfl
theorem gd_wsX60 : ∀ w ∈ wsX60, goodWord w = true := List.all_eq_true.mp rfl
theorem gd_wsX40 : ∀ w ∈ wsX40, goodWord w = true := List.all_eq_true.mp rfl
theorem gd_wsX10 : ∀ w ∈ wsX10, goodWord w = true := List.all_eq_true.mp rfl
theorem gd_wsX30 : ∀ w ∈ wsX30, goodWord w = true := List.all_eq_true.mp rfl
theorem gd_wsX00 : ∀ w ∈ wsX00, goodWord w = true := List.all_eq_true.mp rfl
theorem gd_wsX50 : ∀ w ∈ wsX50, goodWord w = true := List.all_eq_true.mp rfl
theorem gd_wsX70 : ∀ w ∈ wsX70, goodWord w = true := List.all_eq_true.mp rfl
theorem gd_wsX20 : ∀ w ∈ wsX20, goodWord w = true := List.all_eq_true.mp rfl
theorem gd_BW : ∀ w ∈ BW, goodWord w = true := (gd_app (gd_app (gd_app (gd_app (gd_app (gd_app (gd_app (gd_app (gd_app (gd_app (gd_app (gd_app gd_wsL_law_r1 (gd_app gd_wsL_law_r2 (gd_app gd_wsL_law_r3 (gd_app gd_wsL_law_r4 (gd_app gd_wsL_law_r5 (gd_app gd_wsL_law_r6 (gd_app gd_wsL_law_r7 (gd_app gd_wsL_law_r8 (gd_app gd_wsL_law_r9 (gd_app gd_wsL_law_r10 (gd_app gd_wsL_law_r11 (gd_app gd_wsL_law_r12 (gd_app gd_wsL_law_r13 (gd_app gd_wsL_law_r14 (gd_app gd_wsL_law_r15 (gd_app gd_wsL_law_r16 (gd_app gd_wsL_law_r17 (gd_app gd_wsL_law_r18 (gd_app gd_wsL_law_r19 (gd_app gd_wsL_law_r20 (gd_app gd_wsL_law_r21 (gd_app gd_wsL_law_r22 (gd_app gd_wsL_law_r23 (gd_app gd_wsL_law_r24 (gd_app gd_wsL_law_r25 (gd_app gd_wsL_law_r26 (gd_app gd_wsL_law_r27 (gd_app gd_wsL_law_r28 (gd_app gd_wsL_law_r29 (gd_app gd_wsL_law_r30 (gd_app gd_wsL_law_r31 (gd_app gd_wsL_law_r32 (gd_app gd_wsL_law_r33 (gd_app gd_wsL_law_r34 gd_wsL_law_r35)))))))))))))))))))))))))))))))))) gd_wsX80) gd_wsX90) gd_wsX60) gd_wsX40) gd_wsX10) gd_wsX30) gd_wsX00) gd_wsX50) gd_wsX70) gd_wsX20) (fun _ h => absurd h List.not_mem_nil))
theorem mw0 : Cond.classLink RL 7 RX8 ∈ BW := bw_wsL_law_r1 _ (List.mem_of_getElem? (i := 0) rfl)
theorem mw1 : Cond.instantiable RX8 11 ∈ BW := bw_wsL_law_r1 _ (List.mem_of_getElem? (i := 1) rfl)
theorem mw2 : Cond.initialized RX8 ∈ BW := bw_wsL_law_r1 _ (List.mem_of_getElem? (i := 2) rfl)
theorem mw3 : Cond.classLink RL 10 RX9 ∈ BW := bw_wsL_law_r1 _ (List.mem_of_getElem? (i := 3) rfl)
theorem mw4 : Cond.instantiable RX9 29 ∈ BW := bw_wsL_law_r1 _ (List.mem_of_getElem? (i := 4) rfl)
theorem mw5 : Cond.initialized RX9 ∈ BW := bw_wsL_law_r1 _ (List.mem_of_getElem? (i := 5) rfl)
theorem mw6 : Cond.methodLink RL 9 yX8_init ∈ BW := bw_wsL_law_r1 _ (List.mem_of_getElem? (i := 6) rfl)
theorem mw7 : Cond.instanceMethod yX8_init ∈ BW := bw_wsL_law_r1 _ (List.mem_of_getElem? (i := 7) rfl)
theorem mw8 : Cond.code yX8_init cX8_init 2 none ∈ BW := bw_wsL_law_r1 _ (List.mem_of_getElem? (i := 8) rfl)
theorem mw9 : Cond.methodLink RX8 1 objectInit ∈ BW := bw_wsL_law_r1 _ (List.mem_of_getElem? (i := 9) rfl)
theorem mw10 : Cond.instanceMethod objectInit ∈ BW := bw_wsL_law_r1 _ (List.mem_of_getElem? (i := 10) rfl)
theorem mw11 : Cond.code objectInit ⟨#[0xb1]⟩ 1 none ∈ BW := bw_wsL_law_r1 _ (List.mem_of_getElem? (i := 11) rfl)
theorem mw12 : Cond.classLink RX8 7 RX6 ∈ BW := bw_wsL_law_r1 _ (List.mem_of_getElem? (i := 12) rfl)
theorem mw13 : Cond.instantiable RX6 2 ∈ BW := bw_wsL_law_r1 _ (List.mem_of_getElem? (i := 13) rfl)
theorem mw14 : Cond.initialized RX6 ∈ BW := bw_wsL_law_r1 _ (List.mem_of_getElem? (i := 14) rfl)
theorem mw15 : Cond.fieldLink RX8 10 "OneJohn" "text" "LOneJohn$Text;" ∈ BW := bw_wsL_law_r1 _ (List.mem_of_getElem? (i := 15) rfl)
theorem mw16 : Cond.classLink RX8 16 RX4 ∈ BW := bw_wsL_law_r1 _ (List.mem_of_getElem? (i := 16) rfl)
theorem mw17 : Cond.instantiable RX4 6 ∈ BW := bw_wsL_law_r1 _ (List.mem_of_getElem? (i := 17) rfl)
theorem mw18 : Cond.initialized RX4 ∈ BW := bw_wsL_law_r1 _ (List.mem_of_getElem? (i := 18) rfl)
theorem mw19 : Cond.fieldLink RX8 19 "OneJohn" "reader" "LOneJohn$Reader;" ∈ BW := bw_wsL_law_r1 _ (List.mem_of_getElem? (i := 19) rfl)
theorem mw20 : Cond.classLink RX8 23 RX1 ∈ BW := bw_wsL_law_r1 _ (List.mem_of_getElem? (i := 20) rfl)
theorem mw21 : Cond.instantiable RX1 6 ∈ BW := bw_wsL_law_r1 _ (List.mem_of_getElem? (i := 21) rfl)
theorem mw22 : Cond.initialized RX1 ∈ BW := bw_wsL_law_r1 _ (List.mem_of_getElem? (i := 22) rfl)
theorem mw23 : Cond.fieldLink RX8 26 "OneJohn" "land" "LOneJohn$Land;" ∈ BW := bw_wsL_law_r1 _ (List.mem_of_getElem? (i := 23) rfl)
theorem mw24 : Cond.classLink RX8 30 RX3 ∈ BW := bw_wsL_law_r2 _ (List.mem_of_getElem? (i := 0) rfl)
theorem mw25 : Cond.instantiable RX3 3 ∈ BW := bw_wsL_law_r2 _ (List.mem_of_getElem? (i := 1) rfl)
theorem mw26 : Cond.initialized RX3 ∈ BW := bw_wsL_law_r2 _ (List.mem_of_getElem? (i := 2) rfl)
theorem mw27 : Cond.fieldLink RX8 33 "OneJohn" "past" "LOneJohn$Past;" ∈ BW := bw_wsL_law_r2 _ (List.mem_of_getElem? (i := 3) rfl)
theorem mw28 : Cond.classLink RX8 37 RX0 ∈ BW := bw_wsL_law_r2 _ (List.mem_of_getElem? (i := 4) rfl)
theorem mw29 : Cond.instantiable RX0 3 ∈ BW := bw_wsL_law_r2 _ (List.mem_of_getElem? (i := 5) rfl)
theorem mw30 : Cond.initialized RX0 ∈ BW := bw_wsL_law_r2 _ (List.mem_of_getElem? (i := 6) rfl)
theorem mw31 : Cond.fieldLink RX8 40 "OneJohn" "told" "LOneJohn$Claims;" ∈ BW := bw_wsL_law_r2 _ (List.mem_of_getElem? (i := 7) rfl)
theorem mw32 : Cond.fieldLink RX8 44 "OneJohn" "records" "LOneJohn$Claims;" ∈ BW := bw_wsL_law_r2 _ (List.mem_of_getElem? (i := 8) rfl)
theorem mw33 : Cond.classLink RX8 47 RX5 ∈ BW := bw_wsL_law_r2 _ (List.mem_of_getElem? (i := 9) rfl)
theorem mw34 : Cond.instantiable RX5 3 ∈ BW := bw_wsL_law_r2 _ (List.mem_of_getElem? (i := 10) rfl)
theorem mw35 : Cond.initialized RX5 ∈ BW := bw_wsL_law_r2 _ (List.mem_of_getElem? (i := 11) rfl)
theorem mw36 : Cond.fieldLink RX8 50 "OneJohn" "renaming" "LOneJohn$Renaming;" ∈ BW := bw_wsL_law_r2 _ (List.mem_of_getElem? (i := 12) rfl)
theorem mw37 : Cond.classLink RX8 54 RX7 ∈ BW := bw_wsL_law_r2 _ (List.mem_of_getElem? (i := 13) rfl)
theorem mw38 : Cond.instantiable RX7 3 ∈ BW := bw_wsL_law_r2 _ (List.mem_of_getElem? (i := 14) rfl)
theorem mw39 : Cond.initialized RX7 ∈ BW := bw_wsL_law_r2 _ (List.mem_of_getElem? (i := 15) rfl)
theorem mw40 : Cond.fieldLink RX8 57 "OneJohn" "wedding" "LOneJohn$Wedding;" ∈ BW := bw_wsL_law_r2 _ (List.mem_of_getElem? (i := 16) rfl)
theorem mw41 : Cond.classLink RX8 61 RX2 ∈ BW := bw_wsL_law_r2 _ (List.mem_of_getElem? (i := 17) rfl)
theorem mw42 : Cond.fieldLink RX8 63 "OneJohn" "images" "[LOneJohn$Now;" ∈ BW := bw_wsL_law_r2 _ (List.mem_of_getElem? (i := 18) rfl)
theorem mw43 : Cond.arrayClass .boolean ∈ BW := bw_wsL_law_r2 _ (List.mem_of_getElem? (i := 19) rfl)
theorem mw44 : Cond.fieldLink RX8 67 "OneJohn" "kept" "[Z" ∈ BW := bw_wsL_law_r2 _ (List.mem_of_getElem? (i := 20) rfl)
theorem mw45 : Cond.fieldLink RX8 71 "OneJohn" "trace" "J" ∈ BW := bw_wsL_law_r2 _ (List.mem_of_getElem? (i := 21) rfl)
theorem mw46 : Cond.instantiable RX2 7 ∈ BW := bw_wsL_law_r2 _ (List.mem_of_getElem? (i := 22) rfl)
theorem mw47 : Cond.initialized RX2 ∈ BW := bw_wsL_law_r2 _ (List.mem_of_getElem? (i := 23) rfl)
theorem mw48 : Cond.instanceMethod yX6_init ∈ BW := bw_wsL_law_r3 _ (List.mem_of_getElem? (i := 0) rfl)
theorem mw49 : Cond.code yX6_init cX6_init 1 none ∈ BW := bw_wsL_law_r3 _ (List.mem_of_getElem? (i := 1) rfl)
theorem mw50 : Cond.methodLink RX6 3 objectInit ∈ BW := bw_wsL_law_r3 _ (List.mem_of_getElem? (i := 2) rfl)
theorem mw51 : Cond.arrayClass .int ∈ BW := bw_wsL_law_r3 _ (List.mem_of_getElem? (i := 3) rfl)
theorem mw52 : Cond.fieldLink RX6 9 "OneJohn$Text" "letters" "[I" ∈ BW := bw_wsL_law_r3 _ (List.mem_of_getElem? (i := 4) rfl)
theorem mw53 : Cond.fieldLink RX6 15 "OneJohn$Text" "length" "I" ∈ BW := bw_wsL_law_r3 _ (List.mem_of_getElem? (i := 5) rfl)
theorem mw54 : Cond.instanceMethod yX4_init ∈ BW := bw_wsL_law_r3 _ (List.mem_of_getElem? (i := 6) rfl)
theorem mw55 : Cond.code yX4_init cX4_init 1 none ∈ BW := bw_wsL_law_r3 _ (List.mem_of_getElem? (i := 7) rfl)
theorem mw56 : Cond.methodLink RX4 3 objectInit ∈ BW := bw_wsL_law_r3 _ (List.mem_of_getElem? (i := 8) rfl)
theorem mw57 : Cond.classLink RX4 9 RX1 ∈ BW := bw_wsL_law_r3 _ (List.mem_of_getElem? (i := 9) rfl)
theorem mw58 : Cond.fieldLink RX4 12 "OneJohn$Reader" "draft" "LOneJohn$Land;" ∈ BW := bw_wsL_law_r3 _ (List.mem_of_getElem? (i := 10) rfl)
theorem mw59 : Cond.fieldLink RX4 18 "OneJohn$Reader" "place" "I" ∈ BW := bw_wsL_law_r3 _ (List.mem_of_getElem? (i := 11) rfl)
theorem mw60 : Cond.fieldLink RX4 22 "OneJohn$Reader" "start" "I" ∈ BW := bw_wsL_law_r3 _ (List.mem_of_getElem? (i := 12) rfl)
theorem mw61 : Cond.fieldLink RX4 25 "OneJohn$Reader" "token" "I" ∈ BW := bw_wsL_law_r3 _ (List.mem_of_getElem? (i := 13) rfl)
theorem mw62 : Cond.fieldLink RX4 28 "OneJohn$Reader" "value" "I" ∈ BW := bw_wsL_law_r3 _ (List.mem_of_getElem? (i := 14) rfl)
theorem mw63 : Cond.fieldLink RX4 31 "OneJohn$Reader" "lawsTold" "Z" ∈ BW := bw_wsL_law_r3 _ (List.mem_of_getElem? (i := 15) rfl)
theorem mw64 : Cond.instanceMethod yX1_init ∈ BW := bw_wsL_law_r3 _ (List.mem_of_getElem? (i := 16) rfl)
theorem mw65 : Cond.code yX1_init cX1_init 1 none ∈ BW := bw_wsL_law_r3 _ (List.mem_of_getElem? (i := 17) rfl)
theorem mw66 : Cond.methodLink RX1 3 objectInit ∈ BW := bw_wsL_law_r3 _ (List.mem_of_getElem? (i := 18) rfl)
theorem mw67 : Cond.fieldLink RX1 9 "OneJohn$Land" "favours" "[I" ∈ BW := bw_wsL_law_r3 _ (List.mem_of_getElem? (i := 19) rfl)
theorem mw68 : Cond.fieldLink RX1 15 "OneJohn$Land" "foes" "[I" ∈ BW := bw_wsL_law_r3 _ (List.mem_of_getElem? (i := 20) rfl)
theorem mw69 : Cond.fieldLink RX1 18 "OneJohn$Land" "due" "[I" ∈ BW := bw_wsL_law_r3 _ (List.mem_of_getElem? (i := 21) rfl)
theorem mw70 : Cond.classLink RX1 21 RX2 ∈ BW := bw_wsL_law_r3 _ (List.mem_of_getElem? (i := 22) rfl)
theorem mw71 : Cond.fieldLink RX1 24 "OneJohn$Land" "now" "LOneJohn$Now;" ∈ BW := bw_wsL_law_r3 _ (List.mem_of_getElem? (i := 23) rfl)
theorem mw72 : Cond.fieldLink RX1 28 "OneJohn$Land" "nameCount" "I" ∈ BW := bw_wsL_law_r4 _ (List.mem_of_getElem? (i := 0) rfl)
theorem mw73 : Cond.fieldLink RX1 32 "OneJohn$Land" "people" "I" ∈ BW := bw_wsL_law_r4 _ (List.mem_of_getElem? (i := 1) rfl)
theorem mw74 : Cond.instanceMethod yX2_init ∈ BW := bw_wsL_law_r4 _ (List.mem_of_getElem? (i := 2) rfl)
theorem mw75 : Cond.code yX2_init cX2_init 1 none ∈ BW := bw_wsL_law_r4 _ (List.mem_of_getElem? (i := 3) rfl)
theorem mw76 : Cond.methodLink RX2 3 objectInit ∈ BW := bw_wsL_law_r4 _ (List.mem_of_getElem? (i := 4) rfl)
theorem mw77 : Cond.fieldLink RX2 9 "OneJohn$Now" "names" "[I" ∈ BW := bw_wsL_law_r4 _ (List.mem_of_getElem? (i := 5) rfl)
theorem mw78 : Cond.fieldLink RX2 15 "OneJohn$Now" "wealth" "[I" ∈ BW := bw_wsL_law_r4 _ (List.mem_of_getElem? (i := 6) rfl)
theorem mw79 : Cond.fieldLink RX2 18 "OneJohn$Now" "deeds" "[I" ∈ BW := bw_wsL_law_r4 _ (List.mem_of_getElem? (i := 7) rfl)
theorem mw80 : Cond.fieldLink RX2 21 "OneJohn$Now" "hurt" "I" ∈ BW := bw_wsL_law_r4 _ (List.mem_of_getElem? (i := 8) rfl)
theorem mw81 : Cond.fieldLink RX2 25 "OneJohn$Now" "laws" "I" ∈ BW := bw_wsL_law_r4 _ (List.mem_of_getElem? (i := 9) rfl)
theorem mw82 : Cond.fieldLink RX2 28 "OneJohn$Now" "chest" "I" ∈ BW := bw_wsL_law_r4 _ (List.mem_of_getElem? (i := 10) rfl)
theorem mw83 : Cond.fieldLink RX2 31 "OneJohn$Now" "years" "I" ∈ BW := bw_wsL_law_r4 _ (List.mem_of_getElem? (i := 11) rfl)
theorem mw84 : Cond.methodLink RX8 32 yX3_init ∈ BW := bw_wsL_law_r4 _ (List.mem_of_getElem? (i := 12) rfl)
theorem mw85 : Cond.instanceMethod yX3_init ∈ BW := bw_wsL_law_r4 _ (List.mem_of_getElem? (i := 13) rfl)
theorem mw86 : Cond.code yX3_init cX3_init 2 none ∈ BW := bw_wsL_law_r4 _ (List.mem_of_getElem? (i := 14) rfl)
theorem mw87 : Cond.methodLink RX3 3 objectInit ∈ BW := bw_wsL_law_r4 _ (List.mem_of_getElem? (i := 15) rfl)
theorem mw88 : Cond.classLink RX3 9 RX2 ∈ BW := bw_wsL_law_r4 _ (List.mem_of_getElem? (i := 16) rfl)
theorem mw89 : Cond.fieldLink RX3 11 "OneJohn$Past" "rows" "[LOneJohn$Now;" ∈ BW := bw_wsL_law_r4 _ (List.mem_of_getElem? (i := 17) rfl)
theorem mw90 : Cond.fieldLink RX3 17 "OneJohn$Past" "next" "I" ∈ BW := bw_wsL_law_r4 _ (List.mem_of_getElem? (i := 18) rfl)
theorem mw91 : Cond.fieldLink RX3 21 "OneJohn$Past" "size" "I" ∈ BW := bw_wsL_law_r4 _ (List.mem_of_getElem? (i := 19) rfl)
theorem mw92 : Cond.instanceMethod yX0_init ∈ BW := bw_wsL_law_r4 _ (List.mem_of_getElem? (i := 20) rfl)
theorem mw93 : Cond.code yX0_init cX0_init 1 none ∈ BW := bw_wsL_law_r4 _ (List.mem_of_getElem? (i := 21) rfl)
theorem mw94 : Cond.methodLink RX0 3 objectInit ∈ BW := bw_wsL_law_r4 _ (List.mem_of_getElem? (i := 22) rfl)
theorem mw95 : Cond.fieldLink RX0 9 "OneJohn$Claims" "subjects" "[I" ∈ BW := bw_wsL_law_r4 _ (List.mem_of_getElem? (i := 23) rfl)
theorem mw96 : Cond.fieldLink RX0 15 "OneJohn$Claims" "answers" "[I" ∈ BW := bw_wsL_law_r5 _ (List.mem_of_getElem? (i := 0) rfl)
theorem mw97 : Cond.fieldLink RX0 18 "OneJohn$Claims" "size" "I" ∈ BW := bw_wsL_law_r5 _ (List.mem_of_getElem? (i := 1) rfl)
theorem mw98 : Cond.instanceMethod yX5_init ∈ BW := bw_wsL_law_r5 _ (List.mem_of_getElem? (i := 2) rfl)
theorem mw99 : Cond.code yX5_init cX5_init 1 none ∈ BW := bw_wsL_law_r5 _ (List.mem_of_getElem? (i := 3) rfl)
theorem mw100 : Cond.methodLink RX5 3 objectInit ∈ BW := bw_wsL_law_r5 _ (List.mem_of_getElem? (i := 4) rfl)
theorem mw101 : Cond.fieldLink RX5 9 "OneJohn$Renaming" "way" "[I" ∈ BW := bw_wsL_law_r5 _ (List.mem_of_getElem? (i := 5) rfl)
theorem mw102 : Cond.fieldLink RX5 15 "OneJohn$Renaming" "best" "[I" ∈ BW := bw_wsL_law_r5 _ (List.mem_of_getElem? (i := 6) rfl)
theorem mw103 : Cond.fieldLink RX5 18 "OneJohn$Renaming" "fewest" "I" ∈ BW := bw_wsL_law_r5 _ (List.mem_of_getElem? (i := 7) rfl)
theorem mw104 : Cond.instanceMethod yX7_init ∈ BW := bw_wsL_law_r5 _ (List.mem_of_getElem? (i := 8) rfl)
theorem mw105 : Cond.code yX7_init cX7_init 1 none ∈ BW := bw_wsL_law_r5 _ (List.mem_of_getElem? (i := 9) rfl)
theorem mw106 : Cond.methodLink RX7 3 objectInit ∈ BW := bw_wsL_law_r5 _ (List.mem_of_getElem? (i := 10) rfl)
theorem mw107 : Cond.fieldLink RX7 9 "OneJohn$Wedding" "way" "[I" ∈ BW := bw_wsL_law_r5 _ (List.mem_of_getElem? (i := 11) rfl)
theorem mw108 : Cond.fieldLink RX7 15 "OneJohn$Wedding" "best" "[I" ∈ BW := bw_wsL_law_r5 _ (List.mem_of_getElem? (i := 12) rfl)
theorem mw109 : Cond.fieldLink RX7 18 "OneJohn$Wedding" "most" "I" ∈ BW := bw_wsL_law_r5 _ (List.mem_of_getElem? (i := 13) rfl)
theorem mw110 : Cond.methodLink RL 12 yX9_init ∈ BW := bw_wsL_law_r5 _ (List.mem_of_getElem? (i := 14) rfl)
theorem mw111 : Cond.instanceMethod yX9_init ∈ BW := bw_wsL_law_r5 _ (List.mem_of_getElem? (i := 15) rfl)
theorem mw112 : Cond.code yX9_init cX9_init 1 none ∈ BW := bw_wsL_law_r5 _ (List.mem_of_getElem? (i := 16) rfl)
theorem mw113 : Cond.methodLink RX9 1 objectInit ∈ BW := bw_wsL_law_r5 _ (List.mem_of_getElem? (i := 17) rfl)
theorem mw114 : Cond.fieldLink RX9 7 "OneJohnModel" "text" "[I" ∈ BW := bw_wsL_law_r5 _ (List.mem_of_getElem? (i := 18) rfl)
theorem mw115 : Cond.fieldLink RX9 13 "OneJohnModel" "many" "[I" ∈ BW := bw_wsL_law_r5 _ (List.mem_of_getElem? (i := 19) rfl)
theorem mw116 : Cond.fieldLink RX9 16 "OneJohnModel" "name" "[I" ∈ BW := bw_wsL_law_r5 _ (List.mem_of_getElem? (i := 20) rfl)
theorem mw117 : Cond.fieldLink RX9 19 "OneJohnModel" "wealth" "[I" ∈ BW := bw_wsL_law_r5 _ (List.mem_of_getElem? (i := 21) rfl)
theorem mw118 : Cond.fieldLink RX9 22 "OneJohnModel" "bills" "[I" ∈ BW := bw_wsL_law_r5 _ (List.mem_of_getElem? (i := 22) rfl)
theorem mw119 : Cond.fieldLink RX9 25 "OneJohnModel" "quarrel" "[I" ∈ BW := bw_wsL_law_r5 _ (List.mem_of_getElem? (i := 23) rfl)
theorem mw120 : Cond.fieldLink RX9 28 "OneJohnModel" "s" "[I" ∈ BW := bw_wsL_law_r6 _ (List.mem_of_getElem? (i := 0) rfl)
theorem mw121 : Cond.fieldLink RX9 31 "OneJohnModel" "w" "[I" ∈ BW := bw_wsL_law_r6 _ (List.mem_of_getElem? (i := 1) rfl)
theorem mw122 : Cond.fieldLink RX9 34 "OneJohnModel" "kept" "[I" ∈ BW := bw_wsL_law_r6 _ (List.mem_of_getElem? (i := 2) rfl)
theorem mw123 : Cond.fieldLink RX9 37 "OneJohnModel" "isKept" "[Z" ∈ BW := bw_wsL_law_r6 _ (List.mem_of_getElem? (i := 3) rfl)
theorem mw124 : Cond.fieldLink RX9 41 "OneJohnModel" "undos" "[I" ∈ BW := bw_wsL_law_r6 _ (List.mem_of_getElem? (i := 4) rfl)
theorem mw125 : Cond.fieldLink RX9 44 "OneJohnModel" "toldOf" "[I" ∈ BW := bw_wsL_law_r6 _ (List.mem_of_getElem? (i := 5) rfl)
theorem mw126 : Cond.fieldLink RX9 47 "OneJohnModel" "toldIs" "[I" ∈ BW := bw_wsL_law_r6 _ (List.mem_of_getElem? (i := 6) rfl)
theorem mw127 : Cond.fieldLink RX9 50 "OneJohnModel" "recordOf" "[I" ∈ BW := bw_wsL_law_r6 _ (List.mem_of_getElem? (i := 7) rfl)
theorem mw128 : Cond.fieldLink RX9 53 "OneJohnModel" "recordIs" "[I" ∈ BW := bw_wsL_law_r6 _ (List.mem_of_getElem? (i := 8) rfl)
theorem mw129 : Cond.fieldLink RX9 56 "OneJohnModel" "best" "[I" ∈ BW := bw_wsL_law_r6 _ (List.mem_of_getElem? (i := 9) rfl)
theorem mw130 : Cond.fieldLink RX9 59 "OneJohnModel" "twos" "[I" ∈ BW := bw_wsL_law_r6 _ (List.mem_of_getElem? (i := 10) rfl)
theorem mw131 : Cond.methodLink RL 13 yX8_type ∈ BW := bw_wsL_law_r6 _ (List.mem_of_getElem? (i := 11) rfl)
theorem mw132 : Cond.instanceMethod yX8_type ∈ BW := bw_wsL_law_r6 _ (List.mem_of_getElem? (i := 12) rfl)
theorem mw133 : Cond.selects RX8 yX8_type yX8_type ∈ BW := bw_wsL_law_r6 _ (List.mem_of_getElem? (i := 13) rfl)
theorem mw134 : Cond.code yX8_type cX8_type 2 (some .int) ∈ BW := bw_wsL_law_r6 _ (List.mem_of_getElem? (i := 14) rfl)
theorem mw135 : Cond.fieldLink RX8 80 "OneJohn$Text" "length" "I" ∈ BW := bw_wsL_law_r6 _ (List.mem_of_getElem? (i := 15) rfl)
theorem mw136 : Cond.fieldLink RX8 84 "OneJohn$Text" "letters" "[I" ∈ BW := bw_wsL_law_r6 _ (List.mem_of_getElem? (i := 16) rfl)
theorem mw137 : Cond.methodLink RX8 76 yX8_within ∈ BW := bw_wsL_law_r6 _ (List.mem_of_getElem? (i := 17) rfl)
theorem mw138 : Cond.static yX8_within ∈ BW := bw_wsL_law_r6 _ (List.mem_of_getElem? (i := 18) rfl)
theorem mw139 : Cond.code yX8_within cX8_within 3 (some .boolean) ∈ BW := bw_wsL_law_r6 _ (List.mem_of_getElem? (i := 19) rfl)
theorem mw140 : Cond.methodLink RL 17 yX9_type ∈ BW := bw_wsL_law_r6 _ (List.mem_of_getElem? (i := 20) rfl)
theorem mw141 : Cond.instanceMethod yX9_type ∈ BW := bw_wsL_law_r6 _ (List.mem_of_getElem? (i := 21) rfl)
theorem mw142 : Cond.selects RX9 yX9_type yX9_type ∈ BW := bw_wsL_law_r6 _ (List.mem_of_getElem? (i := 22) rfl)
theorem mw143 : Cond.code yX9_type cX9_type 2 (some .int) ∈ BW := bw_wsL_law_r6 _ (List.mem_of_getElem? (i := 23) rfl)
theorem mw144 : Cond.fieldLink RX9 62 "OneJohnModel" "thrown" "I" ∈ BW := bw_wsL_law_r7 _ (List.mem_of_getElem? (i := 0) rfl)
theorem mw145 : Cond.fieldLink RX9 70 "OneJohnModel" "typed" "I" ∈ BW := bw_wsL_law_r7 _ (List.mem_of_getElem? (i := 1) rfl)
theorem mw146 : Cond.methodLink RX9 66 yX9_in ∈ BW := bw_wsL_law_r7 _ (List.mem_of_getElem? (i := 2) rfl)
theorem mw147 : Cond.static yX9_in ∈ BW := bw_wsL_law_r7 _ (List.mem_of_getElem? (i := 3) rfl)
theorem mw148 : Cond.code yX9_in cX9_in 3 (some .boolean) ∈ BW := bw_wsL_law_r7 _ (List.mem_of_getElem? (i := 4) rfl)
theorem mw149 : Cond.methodLink RL 18 yX8_clear ∈ BW := bw_wsL_law_r7 _ (List.mem_of_getElem? (i := 5) rfl)
theorem mw150 : Cond.instanceMethod yX8_clear ∈ BW := bw_wsL_law_r7 _ (List.mem_of_getElem? (i := 6) rfl)
theorem mw151 : Cond.selects RX8 yX8_clear yX8_clear ∈ BW := bw_wsL_law_r7 _ (List.mem_of_getElem? (i := 7) rfl)
theorem mw152 : Cond.code yX8_clear cX8_clear 2 (some .int) ∈ BW := bw_wsL_law_r7 _ (List.mem_of_getElem? (i := 8) rfl)
theorem mw153 : Cond.methodLink RL 22 yX9_clear ∈ BW := bw_wsL_law_r7 _ (List.mem_of_getElem? (i := 9) rfl)
theorem mw154 : Cond.instanceMethod yX9_clear ∈ BW := bw_wsL_law_r7 _ (List.mem_of_getElem? (i := 10) rfl)
theorem mw155 : Cond.selects RX9 yX9_clear yX9_clear ∈ BW := bw_wsL_law_r7 _ (List.mem_of_getElem? (i := 11) rfl)
theorem mw156 : Cond.code yX9_clear cX9_clear 2 (some .int) ∈ BW := bw_wsL_law_r7 _ (List.mem_of_getElem? (i := 12) rfl)
theorem mw157 : Cond.methodLink RL 23 yX8_republic ∈ BW := bw_wsL_law_r7 _ (List.mem_of_getElem? (i := 13) rfl)
theorem mw158 : Cond.instanceMethod yX8_republic ∈ BW := bw_wsL_law_r7 _ (List.mem_of_getElem? (i := 14) rfl)
theorem mw159 : Cond.selects RX8 yX8_republic yX8_republic ∈ BW := bw_wsL_law_r7 _ (List.mem_of_getElem? (i := 15) rfl)
theorem mw160 : Cond.code yX8_republic cX8_republic 3 (some .int) ∈ BW := bw_wsL_law_r7 _ (List.mem_of_getElem? (i := 16) rfl)
theorem mw161 : Cond.fieldLink RX8 92 "OneJohn$Reader" "draft" "LOneJohn$Land;" ∈ BW := bw_wsL_law_r7 _ (List.mem_of_getElem? (i := 17) rfl)
theorem mw162 : Cond.fieldLink RX8 99 "OneJohn$Past" "size" "I" ∈ BW := bw_wsL_law_r7 _ (List.mem_of_getElem? (i := 18) rfl)
theorem mw163 : Cond.fieldLink RX8 102 "OneJohn$Claims" "size" "I" ∈ BW := bw_wsL_law_r7 _ (List.mem_of_getElem? (i := 19) rfl)
theorem mw164 : Cond.methodLink RX8 88 yX4_read ∈ BW := bw_wsL_law_r7 _ (List.mem_of_getElem? (i := 20) rfl)
theorem mw165 : Cond.instanceMethod yX4_read ∈ BW := bw_wsL_law_r7 _ (List.mem_of_getElem? (i := 21) rfl)
theorem mw166 : Cond.selects RX4 yX4_read yX4_read ∈ BW := bw_wsL_law_r7 _ (List.mem_of_getElem? (i := 22) rfl)
theorem mw167 : Cond.code yX4_read cX4_read 3 (some .int) ∈ BW := bw_wsL_law_r7 _ (List.mem_of_getElem? (i := 23) rfl)
theorem mw168 : Cond.methodLink RX4 35 yX1_empty ∈ BW := bw_wsL_law_r8 _ (List.mem_of_getElem? (i := 0) rfl)
theorem mw169 : Cond.instanceMethod yX1_empty ∈ BW := bw_wsL_law_r8 _ (List.mem_of_getElem? (i := 1) rfl)
theorem mw170 : Cond.selects RX1 yX1_empty yX1_empty ∈ BW := bw_wsL_law_r8 _ (List.mem_of_getElem? (i := 2) rfl)
theorem mw171 : Cond.code yX1_empty cX1_empty 1 none ∈ BW := bw_wsL_law_r8 _ (List.mem_of_getElem? (i := 3) rfl)
theorem mw172 : Cond.fieldLink RX1 35 "OneJohn$Now" "hurt" "I" ∈ BW := bw_wsL_law_r8 _ (List.mem_of_getElem? (i := 4) rfl)
theorem mw173 : Cond.fieldLink RX1 38 "OneJohn$Now" "laws" "I" ∈ BW := bw_wsL_law_r8 _ (List.mem_of_getElem? (i := 5) rfl)
theorem mw174 : Cond.fieldLink RX1 41 "OneJohn$Now" "chest" "I" ∈ BW := bw_wsL_law_r8 _ (List.mem_of_getElem? (i := 6) rfl)
theorem mw175 : Cond.fieldLink RX1 44 "OneJohn$Now" "years" "I" ∈ BW := bw_wsL_law_r8 _ (List.mem_of_getElem? (i := 7) rfl)
theorem mw176 : Cond.methodLink RX4 38 yX4_nextToken ∈ BW := bw_wsL_law_r8 _ (List.mem_of_getElem? (i := 8) rfl)
theorem mw177 : Cond.instanceMethod yX4_nextToken ∈ BW := bw_wsL_law_r8 _ (List.mem_of_getElem? (i := 9) rfl)
theorem mw178 : Cond.selects RX4 yX4_nextToken yX4_nextToken ∈ BW := bw_wsL_law_r8 _ (List.mem_of_getElem? (i := 10) rfl)
theorem mw179 : Cond.code yX4_nextToken cX4_nextToken 2 none ∈ BW := bw_wsL_law_r8 _ (List.mem_of_getElem? (i := 11) rfl)
theorem mw180 : Cond.fieldLink RX4 93 "OneJohn$Text" "length" "I" ∈ BW := bw_wsL_law_r8 _ (List.mem_of_getElem? (i := 12) rfl)
theorem mw181 : Cond.fieldLink RX4 98 "OneJohn$Text" "letters" "[I" ∈ BW := bw_wsL_law_r8 _ (List.mem_of_getElem? (i := 13) rfl)
theorem mw182 : Cond.methodLink RX4 101 yX4_isDigit ∈ BW := bw_wsL_law_r8 _ (List.mem_of_getElem? (i := 14) rfl)
theorem mw183 : Cond.static yX4_isDigit ∈ BW := bw_wsL_law_r8 _ (List.mem_of_getElem? (i := 15) rfl)
theorem mw184 : Cond.code yX4_isDigit cX4_isDigit 1 (some .boolean) ∈ BW := bw_wsL_law_r8 _ (List.mem_of_getElem? (i := 16) rfl)
theorem mw185 : Cond.methodLink RX4 105 yX4_takeNumber ∈ BW := bw_wsL_law_r8 _ (List.mem_of_getElem? (i := 17) rfl)
theorem mw186 : Cond.instanceMethod yX4_takeNumber ∈ BW := bw_wsL_law_r8 _ (List.mem_of_getElem? (i := 18) rfl)
theorem mw187 : Cond.selects RX4 yX4_takeNumber yX4_takeNumber ∈ BW := bw_wsL_law_r8 _ (List.mem_of_getElem? (i := 19) rfl)
theorem mw188 : Cond.code yX4_takeNumber cX4_takeNumber 4 none ∈ BW := bw_wsL_law_r8 _ (List.mem_of_getElem? (i := 20) rfl)
theorem mw189 : Cond.methodLink RX4 42 yX4_readItem ∈ BW := bw_wsL_law_r8 _ (List.mem_of_getElem? (i := 21) rfl)
theorem mw190 : Cond.instanceMethod yX4_readItem ∈ BW := bw_wsL_law_r8 _ (List.mem_of_getElem? (i := 22) rfl)
theorem mw191 : Cond.selects RX4 yX4_readItem yX4_readItem ∈ BW := bw_wsL_law_r8 _ (List.mem_of_getElem? (i := 23) rfl)
theorem mw192 : Cond.code yX4_readItem cX4_readItem 3 (some .boolean) ∈ BW := bw_wsL_law_r9 _ (List.mem_of_getElem? (i := 0) rfl)
theorem mw193 : Cond.fieldLink RX4 53 "OneJohn$Land" "people" "I" ∈ BW := bw_wsL_law_r9 _ (List.mem_of_getElem? (i := 1) rfl)
theorem mw194 : Cond.methodLink RX4 46 yX4_readNames ∈ BW := bw_wsL_law_r9 _ (List.mem_of_getElem? (i := 2) rfl)
theorem mw195 : Cond.instanceMethod yX4_readNames ∈ BW := bw_wsL_law_r9 _ (List.mem_of_getElem? (i := 3) rfl)
theorem mw196 : Cond.selects RX4 yX4_readNames yX4_readNames ∈ BW := bw_wsL_law_r9 _ (List.mem_of_getElem? (i := 4) rfl)
theorem mw197 : Cond.code yX4_readNames cX4_readNames 2 (some .boolean) ∈ BW := bw_wsL_law_r9 _ (List.mem_of_getElem? (i := 5) rfl)
theorem mw198 : Cond.fieldLink RX4 69 "OneJohn$Land" "nameCount" "I" ∈ BW := bw_wsL_law_r9 _ (List.mem_of_getElem? (i := 6) rfl)
theorem mw199 : Cond.methodLink RX4 65 yX4_readNumber ∈ BW := bw_wsL_law_r9 _ (List.mem_of_getElem? (i := 7) rfl)
theorem mw200 : Cond.instanceMethod yX4_readNumber ∈ BW := bw_wsL_law_r9 _ (List.mem_of_getElem? (i := 8) rfl)
theorem mw201 : Cond.selects RX4 yX4_readNumber yX4_readNumber ∈ BW := bw_wsL_law_r9 _ (List.mem_of_getElem? (i := 9) rfl)
theorem mw202 : Cond.code yX4_readNumber cX4_readNumber 4 (some .boolean) ∈ BW := bw_wsL_law_r9 _ (List.mem_of_getElem? (i := 10) rfl)
theorem mw203 : Cond.methodLink RX4 50 yX4_isEnded ∈ BW := bw_wsL_law_r9 _ (List.mem_of_getElem? (i := 11) rfl)
theorem mw204 : Cond.instanceMethod yX4_isEnded ∈ BW := bw_wsL_law_r9 _ (List.mem_of_getElem? (i := 12) rfl)
theorem mw205 : Cond.selects RX4 yX4_isEnded yX4_isEnded ∈ BW := bw_wsL_law_r9 _ (List.mem_of_getElem? (i := 13) rfl)
theorem mw206 : Cond.code yX4_isEnded cX4_isEnded 2 (some .boolean) ∈ BW := bw_wsL_law_r9 _ (List.mem_of_getElem? (i := 14) rfl)
theorem mw207 : Cond.methodLink RX4 56 yX4_readPerson ∈ BW := bw_wsL_law_r9 _ (List.mem_of_getElem? (i := 15) rfl)
theorem mw208 : Cond.instanceMethod yX4_readPerson ∈ BW := bw_wsL_law_r9 _ (List.mem_of_getElem? (i := 16) rfl)
theorem mw209 : Cond.selects RX4 yX4_readPerson yX4_readPerson ∈ BW := bw_wsL_law_r9 _ (List.mem_of_getElem? (i := 17) rfl)
theorem mw210 : Cond.code yX4_readPerson cX4_readPerson 4 (some .boolean) ∈ BW := bw_wsL_law_r9 _ (List.mem_of_getElem? (i := 18) rfl)
theorem mw211 : Cond.methodLink RX4 72 yX1_addPerson ∈ BW := bw_wsL_law_r9 _ (List.mem_of_getElem? (i := 19) rfl)
theorem mw212 : Cond.instanceMethod yX1_addPerson ∈ BW := bw_wsL_law_r9 _ (List.mem_of_getElem? (i := 20) rfl)
theorem mw213 : Cond.selects RX1 yX1_addPerson yX1_addPerson ∈ BW := bw_wsL_law_r9 _ (List.mem_of_getElem? (i := 21) rfl)
theorem mw214 : Cond.code yX1_addPerson cX1_addPerson 4 none ∈ BW := bw_wsL_law_r9 _ (List.mem_of_getElem? (i := 22) rfl)
theorem mw215 : Cond.fieldLink RX1 57 "OneJohn$Now" "names" "[I" ∈ BW := bw_wsL_law_r9 _ (List.mem_of_getElem? (i := 23) rfl)
theorem mw216 : Cond.fieldLink RX1 60 "OneJohn$Now" "wealth" "[I" ∈ BW := bw_wsL_law_r10 _ (List.mem_of_getElem? (i := 0) rfl)
theorem mw217 : Cond.fieldLink RX1 63 "OneJohn$Now" "deeds" "[I" ∈ BW := bw_wsL_law_r10 _ (List.mem_of_getElem? (i := 1) rfl)
theorem mw218 : Cond.methodLink RX4 59 yX4_readQuarrel ∈ BW := bw_wsL_law_r10 _ (List.mem_of_getElem? (i := 2) rfl)
theorem mw219 : Cond.instanceMethod yX4_readQuarrel ∈ BW := bw_wsL_law_r10 _ (List.mem_of_getElem? (i := 3) rfl)
theorem mw220 : Cond.selects RX4 yX4_readQuarrel yX4_readQuarrel ∈ BW := bw_wsL_law_r10 _ (List.mem_of_getElem? (i := 4) rfl)
theorem mw221 : Cond.code yX4_readQuarrel cX4_readQuarrel 3 (some .boolean) ∈ BW := bw_wsL_law_r10 _ (List.mem_of_getElem? (i := 5) rfl)
theorem mw222 : Cond.fieldLink RX4 76 "OneJohn$Land" "foes" "[I" ∈ BW := bw_wsL_law_r10 _ (List.mem_of_getElem? (i := 6) rfl)
theorem mw223 : Cond.methodLink RX4 62 yX4_readLaws ∈ BW := bw_wsL_law_r10 _ (List.mem_of_getElem? (i := 7) rfl)
theorem mw224 : Cond.instanceMethod yX4_readLaws ∈ BW := bw_wsL_law_r10 _ (List.mem_of_getElem? (i := 8) rfl)
theorem mw225 : Cond.selects RX4 yX4_readLaws yX4_readLaws ∈ BW := bw_wsL_law_r10 _ (List.mem_of_getElem? (i := 9) rfl)
theorem mw226 : Cond.code yX4_readLaws cX4_readLaws 2 (some .boolean) ∈ BW := bw_wsL_law_r10 _ (List.mem_of_getElem? (i := 10) rfl)
theorem mw227 : Cond.fieldLink RX4 80 "OneJohn$Land" "now" "LOneJohn$Now;" ∈ BW := bw_wsL_law_r10 _ (List.mem_of_getElem? (i := 11) rfl)
theorem mw228 : Cond.fieldLink RX4 84 "OneJohn$Now" "laws" "I" ∈ BW := bw_wsL_law_r10 _ (List.mem_of_getElem? (i := 12) rfl)
theorem mw229 : Cond.methodLink RX8 95 yX1_take ∈ BW := bw_wsL_law_r10 _ (List.mem_of_getElem? (i := 13) rfl)
theorem mw230 : Cond.instanceMethod yX1_take ∈ BW := bw_wsL_law_r10 _ (List.mem_of_getElem? (i := 14) rfl)
theorem mw231 : Cond.selects RX1 yX1_take yX1_take ∈ BW := bw_wsL_law_r10 _ (List.mem_of_getElem? (i := 15) rfl)
theorem mw232 : Cond.code yX1_take cX1_take 2 none ∈ BW := bw_wsL_law_r10 _ (List.mem_of_getElem? (i := 16) rfl)
theorem mw233 : Cond.methodLink RX1 47 arraycopyName ∈ BW := bw_wsL_law_r10 _ (List.mem_of_getElem? (i := 17) rfl)
theorem mw234 : Cond.native arraycopyName ∈ BW := bw_wsL_law_r10 _ (List.mem_of_getElem? (i := 18) rfl)
theorem mw235 : Cond.static arraycopyName ∈ BW := bw_wsL_law_r10 _ (List.mem_of_getElem? (i := 19) rfl)
theorem mw236 : Cond.initialized "java/lang/System" ∈ BW := bw_wsL_law_r10 _ (List.mem_of_getElem? (i := 20) rfl)
theorem mw237 : Cond.methodLink RX1 53 yX2_take ∈ BW := bw_wsL_law_r10 _ (List.mem_of_getElem? (i := 21) rfl)
theorem mw238 : Cond.instanceMethod yX2_take ∈ BW := bw_wsL_law_r10 _ (List.mem_of_getElem? (i := 22) rfl)
theorem mw239 : Cond.selects RX2 yX2_take yX2_take ∈ BW := bw_wsL_law_r10 _ (List.mem_of_getElem? (i := 23) rfl)
theorem mw240 : Cond.code yX2_take cX2_take 2 none ∈ BW := bw_wsL_law_r11 _ (List.mem_of_getElem? (i := 0) rfl)
theorem mw241 : Cond.methodLink RX2 34 arraycopyName ∈ BW := bw_wsL_law_r11 _ (List.mem_of_getElem? (i := 1) rfl)
theorem mw242 : Cond.methodLink RL 26 yX9_republic ∈ BW := bw_wsL_law_r11 _ (List.mem_of_getElem? (i := 2) rfl)
theorem mw243 : Cond.instanceMethod yX9_republic ∈ BW := bw_wsL_law_r11 _ (List.mem_of_getElem? (i := 3) rfl)
theorem mw244 : Cond.selects RX9 yX9_republic yX9_republic ∈ BW := bw_wsL_law_r11 _ (List.mem_of_getElem? (i := 4) rfl)
theorem mw245 : Cond.code yX9_republic cX9_republic 3 (some .int) ∈ BW := bw_wsL_law_r11 _ (List.mem_of_getElem? (i := 5) rfl)
theorem mw246 : Cond.fieldLink RX9 89 "OneJohnModel" "fault" "I" ∈ BW := bw_wsL_law_r11 _ (List.mem_of_getElem? (i := 6) rfl)
theorem mw247 : Cond.fieldLink RX9 73 "OneJohnModel" "next" "I" ∈ BW := bw_wsL_law_r11 _ (List.mem_of_getElem? (i := 7) rfl)
theorem mw248 : Cond.fieldLink RX9 103 "OneJohnModel" "isLawTold" "Z" ∈ BW := bw_wsL_law_r11 _ (List.mem_of_getElem? (i := 8) rfl)
theorem mw249 : Cond.fieldLink RX9 83 "OneJohnModel" "token" "I" ∈ BW := bw_wsL_law_r11 _ (List.mem_of_getElem? (i := 9) rfl)
theorem mw250 : Cond.methodLink RX9 96 yX9_advances ∈ BW := bw_wsL_law_r11 _ (List.mem_of_getElem? (i := 10) rfl)
theorem mw251 : Cond.instanceMethod yX9_advances ∈ BW := bw_wsL_law_r11 _ (List.mem_of_getElem? (i := 11) rfl)
theorem mw252 : Cond.selects RX9 yX9_advances yX9_advances ∈ BW := bw_wsL_law_r11 _ (List.mem_of_getElem? (i := 12) rfl)
theorem mw253 : Cond.code yX9_advances cX9_advances 2 none ∈ BW := bw_wsL_law_r11 _ (List.mem_of_getElem? (i := 13) rfl)
theorem mw254 : Cond.fieldLink RX9 80 "OneJohnModel" "place" "I" ∈ BW := bw_wsL_law_r11 _ (List.mem_of_getElem? (i := 14) rfl)
theorem mw255 : Cond.fieldLink RX9 86 "OneJohnModel" "value" "I" ∈ BW := bw_wsL_law_r11 _ (List.mem_of_getElem? (i := 15) rfl)
theorem mw256 : Cond.methodLink RX9 76 yX9_letterAt ∈ BW := bw_wsL_law_r11 _ (List.mem_of_getElem? (i := 16) rfl)
theorem mw257 : Cond.instanceMethod yX9_letterAt ∈ BW := bw_wsL_law_r11 _ (List.mem_of_getElem? (i := 17) rfl)
theorem mw258 : Cond.selects RX9 yX9_letterAt yX9_letterAt ∈ BW := bw_wsL_law_r11 _ (List.mem_of_getElem? (i := 18) rfl)
theorem mw259 : Cond.code yX9_letterAt cX9_letterAt 2 (some .int) ∈ BW := bw_wsL_law_r11 _ (List.mem_of_getElem? (i := 19) rfl)
theorem mw260 : Cond.methodLink RX9 92 yX9_isWell ∈ BW := bw_wsL_law_r11 _ (List.mem_of_getElem? (i := 20) rfl)
theorem mw261 : Cond.instanceMethod yX9_isWell ∈ BW := bw_wsL_law_r11 _ (List.mem_of_getElem? (i := 21) rfl)
theorem mw262 : Cond.selects RX9 yX9_isWell yX9_isWell ∈ BW := bw_wsL_law_r11 _ (List.mem_of_getElem? (i := 22) rfl)
theorem mw263 : Cond.code yX9_isWell cX9_isWell 1 (some .boolean) ∈ BW := bw_wsL_law_r11 _ (List.mem_of_getElem? (i := 23) rfl)
theorem mw264 : Cond.methodLink RX9 111 yX9_mayBegin ∈ BW := bw_wsL_law_r12 _ (List.mem_of_getElem? (i := 0) rfl)
theorem mw265 : Cond.instanceMethod yX9_mayBegin ∈ BW := bw_wsL_law_r12 _ (List.mem_of_getElem? (i := 1) rfl)
theorem mw266 : Cond.selects RX9 yX9_mayBegin yX9_mayBegin ∈ BW := bw_wsL_law_r12 _ (List.mem_of_getElem? (i := 2) rfl)
theorem mw267 : Cond.code yX9_mayBegin cX9_mayBegin 2 (some .boolean) ∈ BW := bw_wsL_law_r12 _ (List.mem_of_getElem? (i := 3) rfl)
theorem mw268 : Cond.methodLink RX9 99 yX9_takes ∈ BW := bw_wsL_law_r12 _ (List.mem_of_getElem? (i := 4) rfl)
theorem mw269 : Cond.instanceMethod yX9_takes ∈ BW := bw_wsL_law_r12 _ (List.mem_of_getElem? (i := 5) rfl)
theorem mw270 : Cond.selects RX9 yX9_takes yX9_takes ∈ BW := bw_wsL_law_r12 _ (List.mem_of_getElem? (i := 6) rfl)
theorem mw271 : Cond.code yX9_takes cX9_takes 3 (some .int) ∈ BW := bw_wsL_law_r12 _ (List.mem_of_getElem? (i := 7) rfl)
theorem mw272 : Cond.methodLink RX9 115 yX9_readsItem ∈ BW := bw_wsL_law_r12 _ (List.mem_of_getElem? (i := 8) rfl)
theorem mw273 : Cond.instanceMethod yX9_readsItem ∈ BW := bw_wsL_law_r12 _ (List.mem_of_getElem? (i := 9) rfl)
theorem mw274 : Cond.selects RX9 yX9_readsItem yX9_readsItem ∈ BW := bw_wsL_law_r12 _ (List.mem_of_getElem? (i := 10) rfl)
theorem mw275 : Cond.code yX9_readsItem cX9_readsItem 4 none ∈ BW := bw_wsL_law_r12 _ (List.mem_of_getElem? (i := 11) rfl)
theorem mw276 : Cond.methodLink RX9 107 yX9_number ∈ BW := bw_wsL_law_r12 _ (List.mem_of_getElem? (i := 12) rfl)
theorem mw277 : Cond.instanceMethod yX9_number ∈ BW := bw_wsL_law_r12 _ (List.mem_of_getElem? (i := 13) rfl)
theorem mw278 : Cond.selects RX9 yX9_number yX9_number ∈ BW := bw_wsL_law_r12 _ (List.mem_of_getElem? (i := 14) rfl)
theorem mw279 : Cond.code yX9_number cX9_number 3 (some .int) ∈ BW := bw_wsL_law_r12 _ (List.mem_of_getElem? (i := 15) rfl)
theorem mw280 : Cond.methodLink RX9 119 yX9_settles ∈ BW := bw_wsL_law_r12 _ (List.mem_of_getElem? (i := 16) rfl)
theorem mw281 : Cond.instanceMethod yX9_settles ∈ BW := bw_wsL_law_r12 _ (List.mem_of_getElem? (i := 17) rfl)
theorem mw282 : Cond.selects RX9 yX9_settles yX9_settles ∈ BW := bw_wsL_law_r12 _ (List.mem_of_getElem? (i := 18) rfl)
theorem mw283 : Cond.code yX9_settles cX9_settles 2 none ∈ BW := bw_wsL_law_r12 _ (List.mem_of_getElem? (i := 19) rfl)
theorem mw284 : Cond.fieldLink RX9 122 "OneJohnModel" "toldMany" "I" ∈ BW := bw_wsL_law_r12 _ (List.mem_of_getElem? (i := 20) rfl)
theorem mw285 : Cond.fieldLink RX9 125 "OneJohnModel" "recordMany" "I" ∈ BW := bw_wsL_law_r12 _ (List.mem_of_getElem? (i := 21) rfl)
theorem mw286 : Cond.fieldLink RX9 128 "OneJohnModel" "undoMany" "I" ∈ BW := bw_wsL_law_r12 _ (List.mem_of_getElem? (i := 22) rfl)
theorem mw287 : Cond.methodLink RL 27 yX8_person ∈ BW := bw_wsL_law_r12 _ (List.mem_of_getElem? (i := 23) rfl)
theorem mw288 : Cond.instanceMethod yX8_person ∈ BW := bw_wsL_law_r13 _ (List.mem_of_getElem? (i := 0) rfl)
theorem mw289 : Cond.selects RX8 yX8_person yX8_person ∈ BW := bw_wsL_law_r13 _ (List.mem_of_getElem? (i := 1) rfl)
theorem mw290 : Cond.code yX8_person cX8_person 3 (some .int) ∈ BW := bw_wsL_law_r13 _ (List.mem_of_getElem? (i := 2) rfl)
theorem mw291 : Cond.fieldLink RX8 107 "OneJohn$Land" "now" "LOneJohn$Now;" ∈ BW := bw_wsL_law_r13 _ (List.mem_of_getElem? (i := 3) rfl)
theorem mw292 : Cond.fieldLink RX8 111 "OneJohn$Now" "names" "[I" ∈ BW := bw_wsL_law_r13 _ (List.mem_of_getElem? (i := 4) rfl)
theorem mw293 : Cond.fieldLink RX8 114 "OneJohn$Now" "wealth" "[I" ∈ BW := bw_wsL_law_r13 _ (List.mem_of_getElem? (i := 5) rfl)
theorem mw294 : Cond.fieldLink RX8 117 "OneJohn$Land" "favours" "[I" ∈ BW := bw_wsL_law_r13 _ (List.mem_of_getElem? (i := 6) rfl)
theorem mw295 : Cond.fieldLink RX8 120 "OneJohn$Now" "hurt" "I" ∈ BW := bw_wsL_law_r13 _ (List.mem_of_getElem? (i := 7) rfl)
theorem mw296 : Cond.fieldLink RX8 131 "OneJohn$Now" "deeds" "[I" ∈ BW := bw_wsL_law_r13 _ (List.mem_of_getElem? (i := 8) rfl)
theorem mw297 : Cond.methodLink RX8 103 yX1_hasPerson ∈ BW := bw_wsL_law_r13 _ (List.mem_of_getElem? (i := 9) rfl)
theorem mw298 : Cond.instanceMethod yX1_hasPerson ∈ BW := bw_wsL_law_r13 _ (List.mem_of_getElem? (i := 10) rfl)
theorem mw299 : Cond.selects RX1 yX1_hasPerson yX1_hasPerson ∈ BW := bw_wsL_law_r13 _ (List.mem_of_getElem? (i := 11) rfl)
theorem mw300 : Cond.code yX1_hasPerson cX1_hasPerson 2 (some .boolean) ∈ BW := bw_wsL_law_r13 _ (List.mem_of_getElem? (i := 12) rfl)
theorem mw301 : Cond.methodLink RX8 123 yX8_bit ∈ BW := bw_wsL_law_r13 _ (List.mem_of_getElem? (i := 13) rfl)
theorem mw302 : Cond.static yX8_bit ∈ BW := bw_wsL_law_r13 _ (List.mem_of_getElem? (i := 14) rfl)
theorem mw303 : Cond.code yX8_bit cX8_bit 2 (some .int) ∈ BW := bw_wsL_law_r13 _ (List.mem_of_getElem? (i := 15) rfl)
theorem mw304 : Cond.methodLink RX8 127 yX1_limping ∈ BW := bw_wsL_law_r13 _ (List.mem_of_getElem? (i := 16) rfl)
theorem mw305 : Cond.instanceMethod yX1_limping ∈ BW := bw_wsL_law_r13 _ (List.mem_of_getElem? (i := 17) rfl)
theorem mw306 : Cond.selects RX1 yX1_limping yX1_limping ∈ BW := bw_wsL_law_r13 _ (List.mem_of_getElem? (i := 18) rfl)
theorem mw307 : Cond.code yX1_limping cX1_limping 1 (some .int) ∈ BW := bw_wsL_law_r13 _ (List.mem_of_getElem? (i := 19) rfl)
theorem mw308 : Cond.methodLink RX1 74 yX1_limpingIf ∈ BW := bw_wsL_law_r13 _ (List.mem_of_getElem? (i := 20) rfl)
theorem mw309 : Cond.instanceMethod yX1_limpingIf ∈ BW := bw_wsL_law_r13 _ (List.mem_of_getElem? (i := 21) rfl)
theorem mw310 : Cond.selects RX1 yX1_limpingIf yX1_limpingIf ∈ BW := bw_wsL_law_r13 _ (List.mem_of_getElem? (i := 22) rfl)
theorem mw311 : Cond.code yX1_limpingIf cX1_limpingIf 6 (some .int) ∈ BW := bw_wsL_law_r13 _ (List.mem_of_getElem? (i := 23) rfl)
theorem mw312 : Cond.methodLink RX1 77 yX1_bearers ∈ BW := bw_wsL_law_r14 _ (List.mem_of_getElem? (i := 0) rfl)
theorem mw313 : Cond.instanceMethod yX1_bearers ∈ BW := bw_wsL_law_r14 _ (List.mem_of_getElem? (i := 1) rfl)
theorem mw314 : Cond.selects RX1 yX1_bearers yX1_bearers ∈ BW := bw_wsL_law_r14 _ (List.mem_of_getElem? (i := 2) rfl)
theorem mw315 : Cond.code yX1_bearers cX1_bearers 4 (some .int) ∈ BW := bw_wsL_law_r14 _ (List.mem_of_getElem? (i := 3) rfl)
theorem mw316 : Cond.methodLink RX8 134 yX1_fame ∈ BW := bw_wsL_law_r14 _ (List.mem_of_getElem? (i := 4) rfl)
theorem mw317 : Cond.instanceMethod yX1_fame ∈ BW := bw_wsL_law_r14 _ (List.mem_of_getElem? (i := 5) rfl)
theorem mw318 : Cond.selects RX1 yX1_fame yX1_fame ∈ BW := bw_wsL_law_r14 _ (List.mem_of_getElem? (i := 6) rfl)
theorem mw319 : Cond.code yX1_fame cX1_fame 4 (some .int) ∈ BW := bw_wsL_law_r14 _ (List.mem_of_getElem? (i := 7) rfl)
theorem mw320 : Cond.methodLink RX8 138 yX1_tax ∈ BW := bw_wsL_law_r14 _ (List.mem_of_getElem? (i := 8) rfl)
theorem mw321 : Cond.instanceMethod yX1_tax ∈ BW := bw_wsL_law_r14 _ (List.mem_of_getElem? (i := 9) rfl)
theorem mw322 : Cond.selects RX1 yX1_tax yX1_tax ∈ BW := bw_wsL_law_r14 _ (List.mem_of_getElem? (i := 10) rfl)
theorem mw323 : Cond.code yX1_tax cX1_tax 2 (some .int) ∈ BW := bw_wsL_law_r14 _ (List.mem_of_getElem? (i := 11) rfl)
theorem mw324 : Cond.methodLink RX1 81 yX1_taxIfNamed ∈ BW := bw_wsL_law_r14 _ (List.mem_of_getElem? (i := 12) rfl)
theorem mw325 : Cond.instanceMethod yX1_taxIfNamed ∈ BW := bw_wsL_law_r14 _ (List.mem_of_getElem? (i := 13) rfl)
theorem mw326 : Cond.selects RX1 yX1_taxIfNamed yX1_taxIfNamed ∈ BW := bw_wsL_law_r14 _ (List.mem_of_getElem? (i := 14) rfl)
theorem mw327 : Cond.code yX1_taxIfNamed cX1_taxIfNamed 5 (some .int) ∈ BW := bw_wsL_law_r14 _ (List.mem_of_getElem? (i := 15) rfl)
theorem mw328 : Cond.methodLink RX1 89 Lib.Math.max.name ∈ BW := bw_wsL_law_r14 _ (List.mem_of_getElem? (i := 16) rfl)
theorem mw329 : Cond.static Lib.Math.max.name ∈ BW := bw_wsL_law_r14 _ (List.mem_of_getElem? (i := 17) rfl)
theorem mw330 : Cond.initialized "java/lang/Math" ∈ BW := bw_wsL_law_r14 _ (List.mem_of_getElem? (i := 18) rfl)
theorem mw331 : Cond.code Lib.Math.max.name Lib.Math.max.code 2 (some .int) ∈ BW := bw_wsL_law_r14 _ (List.mem_of_getElem? (i := 19) rfl)
theorem mw332 : Cond.methodLink RX1 84 yJ6_bitCount_0f7a4 ∈ BW := bw_wsL_law_r14 _ (List.mem_of_getElem? (i := 20) rfl)
theorem mw333 : Cond.static yJ6_bitCount_0f7a4 ∈ BW := bw_wsL_law_r14 _ (List.mem_of_getElem? (i := 21) rfl)
theorem mw334 : Cond.initialized RJ6 ∈ BW := bw_wsL_law_r14 _ (List.mem_of_getElem? (i := 22) rfl)
theorem mw335 : Cond.code yJ6_bitCount_0f7a4 cJ6_bitCount_0f7a4 1 (some .int) ∈ BW := bw_wsL_law_r14 _ (List.mem_of_getElem? (i := 23) rfl)
theorem mw336 : Cond.constant RJ6 265 (1431655765) ∈ BW := bw_wsL_law_r15 _ (List.mem_of_getElem? (i := 0) rfl)
theorem mw337 : Cond.constant RJ6 266 (858993459) ∈ BW := bw_wsL_law_r15 _ (List.mem_of_getElem? (i := 1) rfl)
theorem mw338 : Cond.constant RJ6 267 (252645135) ∈ BW := bw_wsL_law_r15 _ (List.mem_of_getElem? (i := 2) rfl)
theorem mw339 : Cond.methodLink RX1 94 yX1_wealthOf ∈ BW := bw_wsL_law_r15 _ (List.mem_of_getElem? (i := 3) rfl)
theorem mw340 : Cond.instanceMethod yX1_wealthOf ∈ BW := bw_wsL_law_r15 _ (List.mem_of_getElem? (i := 4) rfl)
theorem mw341 : Cond.selects RX1 yX1_wealthOf yX1_wealthOf ∈ BW := bw_wsL_law_r15 _ (List.mem_of_getElem? (i := 5) rfl)
theorem mw342 : Cond.code yX1_wealthOf cX1_wealthOf 4 (some .int) ∈ BW := bw_wsL_law_r15 _ (List.mem_of_getElem? (i := 6) rfl)
theorem mw343 : Cond.methodLink RL 31 yX9_person ∈ BW := bw_wsL_law_r15 _ (List.mem_of_getElem? (i := 7) rfl)
theorem mw344 : Cond.instanceMethod yX9_person ∈ BW := bw_wsL_law_r15 _ (List.mem_of_getElem? (i := 8) rfl)
theorem mw345 : Cond.selects RX9 yX9_person yX9_person ∈ BW := bw_wsL_law_r15 _ (List.mem_of_getElem? (i := 9) rfl)
theorem mw346 : Cond.code yX9_person cX9_person 3 (some .int) ∈ BW := bw_wsL_law_r15 _ (List.mem_of_getElem? (i := 10) rfl)
theorem mw347 : Cond.methodLink RX9 153 yX9_isPerson ∈ BW := bw_wsL_law_r15 _ (List.mem_of_getElem? (i := 11) rfl)
theorem mw348 : Cond.instanceMethod yX9_isPerson ∈ BW := bw_wsL_law_r15 _ (List.mem_of_getElem? (i := 12) rfl)
theorem mw349 : Cond.selects RX9 yX9_isPerson yX9_isPerson ∈ BW := bw_wsL_law_r15 _ (List.mem_of_getElem? (i := 13) rfl)
theorem mw350 : Cond.code yX9_isPerson cX9_isPerson 2 (some .boolean) ∈ BW := bw_wsL_law_r15 _ (List.mem_of_getElem? (i := 14) rfl)
theorem mw351 : Cond.methodLink RX9 156 yX9_limps ∈ BW := bw_wsL_law_r15 _ (List.mem_of_getElem? (i := 15) rfl)
theorem mw352 : Cond.instanceMethod yX9_limps ∈ BW := bw_wsL_law_r15 _ (List.mem_of_getElem? (i := 16) rfl)
theorem mw353 : Cond.selects RX9 yX9_limps yX9_limps ∈ BW := bw_wsL_law_r15 _ (List.mem_of_getElem? (i := 17) rfl)
theorem mw354 : Cond.code yX9_limps cX9_limps 4 (some .boolean) ∈ BW := bw_wsL_law_r15 _ (List.mem_of_getElem? (i := 18) rfl)
theorem mw355 : Cond.methodLink RX9 131 yX9_isLaw ∈ BW := bw_wsL_law_r15 _ (List.mem_of_getElem? (i := 19) rfl)
theorem mw356 : Cond.static yX9_isLaw ∈ BW := bw_wsL_law_r15 _ (List.mem_of_getElem? (i := 20) rfl)
theorem mw357 : Cond.code yX9_isLaw cX9_isLaw 2 (some .boolean) ∈ BW := bw_wsL_law_r15 _ (List.mem_of_getElem? (i := 21) rfl)
theorem mw358 : Cond.methodLink RX9 135 yX9_peopleOf ∈ BW := bw_wsL_law_r15 _ (List.mem_of_getElem? (i := 22) rfl)
theorem mw359 : Cond.instanceMethod yX9_peopleOf ∈ BW := bw_wsL_law_r15 _ (List.mem_of_getElem? (i := 23) rfl)
theorem mw360 : Cond.selects RX9 yX9_peopleOf yX9_peopleOf ∈ BW := bw_wsL_law_r16 _ (List.mem_of_getElem? (i := 0) rfl)
theorem mw361 : Cond.code yX9_peopleOf cX9_peopleOf 5 (some .int) ∈ BW := bw_wsL_law_r16 _ (List.mem_of_getElem? (i := 1) rfl)
theorem mw362 : Cond.methodLink RX9 159 yX9_fame ∈ BW := bw_wsL_law_r16 _ (List.mem_of_getElem? (i := 2) rfl)
theorem mw363 : Cond.instanceMethod yX9_fame ∈ BW := bw_wsL_law_r16 _ (List.mem_of_getElem? (i := 3) rfl)
theorem mw364 : Cond.selects RX9 yX9_fame yX9_fame ∈ BW := bw_wsL_law_r16 _ (List.mem_of_getElem? (i := 4) rfl)
theorem mw365 : Cond.code yX9_fame cX9_fame 3 (some .int) ∈ BW := bw_wsL_law_r16 _ (List.mem_of_getElem? (i := 5) rfl)
theorem mw366 : Cond.methodLink RX9 139 yX9_sumOf ∈ BW := bw_wsL_law_r16 _ (List.mem_of_getElem? (i := 6) rfl)
theorem mw367 : Cond.instanceMethod yX9_sumOf ∈ BW := bw_wsL_law_r16 _ (List.mem_of_getElem? (i := 7) rfl)
theorem mw368 : Cond.selects RX9 yX9_sumOf yX9_sumOf ∈ BW := bw_wsL_law_r16 _ (List.mem_of_getElem? (i := 8) rfl)
theorem mw369 : Cond.code yX9_sumOf cX9_sumOf 6 (some .int) ∈ BW := bw_wsL_law_r16 _ (List.mem_of_getElem? (i := 9) rfl)
theorem mw370 : Cond.methodLink RX9 162 yX9_tax ∈ BW := bw_wsL_law_r16 _ (List.mem_of_getElem? (i := 10) rfl)
theorem mw371 : Cond.instanceMethod yX9_tax ∈ BW := bw_wsL_law_r16 _ (List.mem_of_getElem? (i := 11) rfl)
theorem mw372 : Cond.selects RX9 yX9_tax yX9_tax ∈ BW := bw_wsL_law_r16 _ (List.mem_of_getElem? (i := 12) rfl)
theorem mw373 : Cond.code yX9_tax cX9_tax 4 (some .int) ∈ BW := bw_wsL_law_r16 _ (List.mem_of_getElem? (i := 13) rfl)
theorem mw374 : Cond.methodLink RX9 143 yX9_ones ∈ BW := bw_wsL_law_r16 _ (List.mem_of_getElem? (i := 14) rfl)
theorem mw375 : Cond.static yX9_ones ∈ BW := bw_wsL_law_r16 _ (List.mem_of_getElem? (i := 15) rfl)
theorem mw376 : Cond.code yX9_ones cX9_ones 3 (some .int) ∈ BW := bw_wsL_law_r16 _ (List.mem_of_getElem? (i := 16) rfl)
theorem mw377 : Cond.methodLink RL 32 yX8_quarrels ∈ BW := bw_wsL_law_r16 _ (List.mem_of_getElem? (i := 17) rfl)
theorem mw378 : Cond.instanceMethod yX8_quarrels ∈ BW := bw_wsL_law_r16 _ (List.mem_of_getElem? (i := 18) rfl)
theorem mw379 : Cond.selects RX8 yX8_quarrels yX8_quarrels ∈ BW := bw_wsL_law_r16 _ (List.mem_of_getElem? (i := 19) rfl)
theorem mw380 : Cond.code yX8_quarrels cX8_quarrels 2 (some .int) ∈ BW := bw_wsL_law_r16 _ (List.mem_of_getElem? (i := 20) rfl)
theorem mw381 : Cond.fieldLink RX8 141 "OneJohn$Land" "foes" "[I" ∈ BW := bw_wsL_law_r16 _ (List.mem_of_getElem? (i := 21) rfl)
theorem mw382 : Cond.methodLink RL 35 yX9_quarrels ∈ BW := bw_wsL_law_r16 _ (List.mem_of_getElem? (i := 22) rfl)
theorem mw383 : Cond.instanceMethod yX9_quarrels ∈ BW := bw_wsL_law_r16 _ (List.mem_of_getElem? (i := 23) rfl)
theorem mw384 : Cond.selects RX9 yX9_quarrels yX9_quarrels ∈ BW := bw_wsL_law_r17 _ (List.mem_of_getElem? (i := 0) rfl)
theorem mw385 : Cond.code yX9_quarrels cX9_quarrels 2 (some .int) ∈ BW := bw_wsL_law_r17 _ (List.mem_of_getElem? (i := 1) rfl)
theorem mw386 : Cond.methodLink RL 36 yX8_name ∈ BW := bw_wsL_law_r17 _ (List.mem_of_getElem? (i := 2) rfl)
theorem mw387 : Cond.instanceMethod yX8_name ∈ BW := bw_wsL_law_r17 _ (List.mem_of_getElem? (i := 3) rfl)
theorem mw388 : Cond.selects RX8 yX8_name yX8_name ∈ BW := bw_wsL_law_r17 _ (List.mem_of_getElem? (i := 4) rfl)
theorem mw389 : Cond.code yX8_name cX8_name 5 (some .int) ∈ BW := bw_wsL_law_r17 _ (List.mem_of_getElem? (i := 5) rfl)
theorem mw390 : Cond.methodLink RX8 155 Lib.Math.max.name ∈ BW := bw_wsL_law_r17 _ (List.mem_of_getElem? (i := 6) rfl)
theorem mw391 : Cond.methodLink RX8 144 yX1_hasName ∈ BW := bw_wsL_law_r17 _ (List.mem_of_getElem? (i := 7) rfl)
theorem mw392 : Cond.instanceMethod yX1_hasName ∈ BW := bw_wsL_law_r17 _ (List.mem_of_getElem? (i := 8) rfl)
theorem mw393 : Cond.selects RX1 yX1_hasName yX1_hasName ∈ BW := bw_wsL_law_r17 _ (List.mem_of_getElem? (i := 9) rfl)
theorem mw394 : Cond.code yX1_hasName cX1_hasName 2 (some .boolean) ∈ BW := bw_wsL_law_r17 _ (List.mem_of_getElem? (i := 10) rfl)
theorem mw395 : Cond.methodLink RX8 147 yX1_bearers ∈ BW := bw_wsL_law_r17 _ (List.mem_of_getElem? (i := 11) rfl)
theorem mw396 : Cond.methodLink RX8 150 yJ6_bitCount_0f7a4 ∈ BW := bw_wsL_law_r17 _ (List.mem_of_getElem? (i := 12) rfl)
theorem mw397 : Cond.methodLink RX8 160 yX1_wealthOf ∈ BW := bw_wsL_law_r17 _ (List.mem_of_getElem? (i := 13) rfl)
theorem mw398 : Cond.methodLink RX8 163 yX8_inLeastTerms ∈ BW := bw_wsL_law_r17 _ (List.mem_of_getElem? (i := 14) rfl)
theorem mw399 : Cond.static yX8_inLeastTerms ∈ BW := bw_wsL_law_r17 _ (List.mem_of_getElem? (i := 15) rfl)
theorem mw400 : Cond.code yX8_inLeastTerms cX8_inLeastTerms 3 (some .int) ∈ BW := bw_wsL_law_r17 _ (List.mem_of_getElem? (i := 16) rfl)
theorem mw401 : Cond.methodLink RX8 270 yX8_commonDivisor ∈ BW := bw_wsL_law_r17 _ (List.mem_of_getElem? (i := 17) rfl)
theorem mw402 : Cond.static yX8_commonDivisor ∈ BW := bw_wsL_law_r17 _ (List.mem_of_getElem? (i := 18) rfl)
theorem mw403 : Cond.code yX8_commonDivisor cX8_commonDivisor 6 (some .int) ∈ BW := bw_wsL_law_r17 _ (List.mem_of_getElem? (i := 19) rfl)
theorem mw404 : Cond.methodLink RL 39 yX9_name ∈ BW := bw_wsL_law_r17 _ (List.mem_of_getElem? (i := 20) rfl)
theorem mw405 : Cond.instanceMethod yX9_name ∈ BW := bw_wsL_law_r17 _ (List.mem_of_getElem? (i := 21) rfl)
theorem mw406 : Cond.selects RX9 yX9_name yX9_name ∈ BW := bw_wsL_law_r17 _ (List.mem_of_getElem? (i := 22) rfl)
theorem mw407 : Cond.code yX9_name cX9_name 4 (some .int) ∈ BW := bw_wsL_law_r17 _ (List.mem_of_getElem? (i := 23) rfl)
theorem mw408 : Cond.methodLink RX9 168 yX9_isName ∈ BW := bw_wsL_law_r18 _ (List.mem_of_getElem? (i := 0) rfl)
theorem mw409 : Cond.instanceMethod yX9_isName ∈ BW := bw_wsL_law_r18 _ (List.mem_of_getElem? (i := 1) rfl)
theorem mw410 : Cond.selects RX9 yX9_isName yX9_isName ∈ BW := bw_wsL_law_r18 _ (List.mem_of_getElem? (i := 2) rfl)
theorem mw411 : Cond.code yX9_isName cX9_isName 2 (some .boolean) ∈ BW := bw_wsL_law_r18 _ (List.mem_of_getElem? (i := 3) rfl)
theorem mw412 : Cond.methodLink RX9 171 yX9_part ∈ BW := bw_wsL_law_r18 _ (List.mem_of_getElem? (i := 4) rfl)
theorem mw413 : Cond.static yX9_part ∈ BW := bw_wsL_law_r18 _ (List.mem_of_getElem? (i := 5) rfl)
theorem mw414 : Cond.code yX9_part cX9_part 4 (some .int) ∈ BW := bw_wsL_law_r18 _ (List.mem_of_getElem? (i := 6) rfl)
theorem mw415 : Cond.methodLink RX9 165 yX9_gcd ∈ BW := bw_wsL_law_r18 _ (List.mem_of_getElem? (i := 7) rfl)
theorem mw416 : Cond.static yX9_gcd ∈ BW := bw_wsL_law_r18 _ (List.mem_of_getElem? (i := 8) rfl)
theorem mw417 : Cond.code yX9_gcd cX9_gcd 5 (some .int) ∈ BW := bw_wsL_law_r18 _ (List.mem_of_getElem? (i := 9) rfl)
theorem mw418 : Cond.methodLink RL 40 yX8_bill ∈ BW := bw_wsL_law_r18 _ (List.mem_of_getElem? (i := 10) rfl)
theorem mw419 : Cond.instanceMethod yX8_bill ∈ BW := bw_wsL_law_r18 _ (List.mem_of_getElem? (i := 11) rfl)
theorem mw420 : Cond.selects RX8 yX8_bill yX8_bill ∈ BW := bw_wsL_law_r18 _ (List.mem_of_getElem? (i := 12) rfl)
theorem mw421 : Cond.code yX8_bill cX8_bill 4 (some .int) ∈ BW := bw_wsL_law_r18 _ (List.mem_of_getElem? (i := 13) rfl)
theorem mw422 : Cond.fieldLink RX8 166 "OneJohn$Now" "laws" "I" ∈ BW := bw_wsL_law_r18 _ (List.mem_of_getElem? (i := 14) rfl)
theorem mw423 : Cond.methodLink RX8 169 yX1_yes ∈ BW := bw_wsL_law_r18 _ (List.mem_of_getElem? (i := 15) rfl)
theorem mw424 : Cond.instanceMethod yX1_yes ∈ BW := bw_wsL_law_r18 _ (List.mem_of_getElem? (i := 16) rfl)
theorem mw425 : Cond.selects RX1 yX1_yes yX1_yes ∈ BW := bw_wsL_law_r18 _ (List.mem_of_getElem? (i := 17) rfl)
theorem mw426 : Cond.code yX1_yes cX1_yes 4 (some .int) ∈ BW := bw_wsL_law_r18 _ (List.mem_of_getElem? (i := 18) rfl)
theorem mw427 : Cond.methodLink RX1 111 yX1_sayers ∈ BW := bw_wsL_law_r18 _ (List.mem_of_getElem? (i := 19) rfl)
theorem mw428 : Cond.instanceMethod yX1_sayers ∈ BW := bw_wsL_law_r18 _ (List.mem_of_getElem? (i := 20) rfl)
theorem mw429 : Cond.selects RX1 yX1_sayers yX1_sayers ∈ BW := bw_wsL_law_r18 _ (List.mem_of_getElem? (i := 21) rfl)
theorem mw430 : Cond.code yX1_sayers cX1_sayers 5 (some .int) ∈ BW := bw_wsL_law_r18 _ (List.mem_of_getElem? (i := 22) rfl)
theorem mw431 : Cond.methodLink RX1 114 yX1_votes ∈ BW := bw_wsL_law_r18 _ (List.mem_of_getElem? (i := 23) rfl)
theorem mw432 : Cond.instanceMethod yX1_votes ∈ BW := bw_wsL_law_r19 _ (List.mem_of_getElem? (i := 0) rfl)
theorem mw433 : Cond.selects RX1 yX1_votes yX1_votes ∈ BW := bw_wsL_law_r19 _ (List.mem_of_getElem? (i := 1) rfl)
theorem mw434 : Cond.code yX1_votes cX1_votes 11 (some .int) ∈ BW := bw_wsL_law_r19 _ (List.mem_of_getElem? (i := 2) rfl)
theorem mw435 : Cond.methodLink RX8 173 yX1_no ∈ BW := bw_wsL_law_r19 _ (List.mem_of_getElem? (i := 3) rfl)
theorem mw436 : Cond.instanceMethod yX1_no ∈ BW := bw_wsL_law_r19 _ (List.mem_of_getElem? (i := 4) rfl)
theorem mw437 : Cond.selects RX1 yX1_no yX1_no ∈ BW := bw_wsL_law_r19 _ (List.mem_of_getElem? (i := 5) rfl)
theorem mw438 : Cond.code yX1_no cX1_no 4 (some .int) ∈ BW := bw_wsL_law_r19 _ (List.mem_of_getElem? (i := 6) rfl)
theorem mw439 : Cond.methodLink RX8 176 yX1_passes ∈ BW := bw_wsL_law_r19 _ (List.mem_of_getElem? (i := 7) rfl)
theorem mw440 : Cond.instanceMethod yX1_passes ∈ BW := bw_wsL_law_r19 _ (List.mem_of_getElem? (i := 8) rfl)
theorem mw441 : Cond.selects RX1 yX1_passes yX1_passes ∈ BW := bw_wsL_law_r19 _ (List.mem_of_getElem? (i := 9) rfl)
theorem mw442 : Cond.code yX1_passes cX1_passes 4 (some .boolean) ∈ BW := bw_wsL_law_r19 _ (List.mem_of_getElem? (i := 10) rfl)
theorem mw443 : Cond.methodLink RX1 118 yX1_yes ∈ BW := bw_wsL_law_r19 _ (List.mem_of_getElem? (i := 11) rfl)
theorem mw444 : Cond.methodLink RX1 122 yX1_no ∈ BW := bw_wsL_law_r19 _ (List.mem_of_getElem? (i := 12) rfl)
theorem mw445 : Cond.methodLink RX8 179 yX1_sway ∈ BW := bw_wsL_law_r19 _ (List.mem_of_getElem? (i := 13) rfl)
theorem mw446 : Cond.instanceMethod yX1_sway ∈ BW := bw_wsL_law_r19 _ (List.mem_of_getElem? (i := 14) rfl)
theorem mw447 : Cond.selects RX1 yX1_sway yX1_sway ∈ BW := bw_wsL_law_r19 _ (List.mem_of_getElem? (i := 15) rfl)
theorem mw448 : Cond.code yX1_sway cX1_sway 5 (some .int) ∈ BW := bw_wsL_law_r19 _ (List.mem_of_getElem? (i := 16) rfl)
theorem mw449 : Cond.methodLink RX1 125 yX1_passes ∈ BW := bw_wsL_law_r19 _ (List.mem_of_getElem? (i := 17) rfl)
theorem mw450 : Cond.methodLink RL 43 yX9_bill ∈ BW := bw_wsL_law_r19 _ (List.mem_of_getElem? (i := 18) rfl)
theorem mw451 : Cond.instanceMethod yX9_bill ∈ BW := bw_wsL_law_r19 _ (List.mem_of_getElem? (i := 19) rfl)
theorem mw452 : Cond.selects RX9 yX9_bill yX9_bill ∈ BW := bw_wsL_law_r19 _ (List.mem_of_getElem? (i := 20) rfl)
theorem mw453 : Cond.code yX9_bill cX9_bill 3 (some .int) ∈ BW := bw_wsL_law_r19 _ (List.mem_of_getElem? (i := 21) rfl)
theorem mw454 : Cond.methodLink RX9 175 yX9_everybody ∈ BW := bw_wsL_law_r19 _ (List.mem_of_getElem? (i := 22) rfl)
theorem mw455 : Cond.instanceMethod yX9_everybody ∈ BW := bw_wsL_law_r19 _ (List.mem_of_getElem? (i := 23) rfl)
theorem mw456 : Cond.selects RX9 yX9_everybody yX9_everybody ∈ BW := bw_wsL_law_r20 _ (List.mem_of_getElem? (i := 0) rfl)
theorem mw457 : Cond.code yX9_everybody cX9_everybody 1 (some .int) ∈ BW := bw_wsL_law_r20 _ (List.mem_of_getElem? (i := 1) rfl)
theorem mw458 : Cond.methodLink RX9 149 yX9_voices ∈ BW := bw_wsL_law_r20 _ (List.mem_of_getElem? (i := 2) rfl)
theorem mw459 : Cond.instanceMethod yX9_voices ∈ BW := bw_wsL_law_r20 _ (List.mem_of_getElem? (i := 3) rfl)
theorem mw460 : Cond.selects RX9 yX9_voices yX9_voices ∈ BW := bw_wsL_law_r20 _ (List.mem_of_getElem? (i := 4) rfl)
theorem mw461 : Cond.code yX9_voices cX9_voices 7 (some .int) ∈ BW := bw_wsL_law_r20 _ (List.mem_of_getElem? (i := 5) rfl)
theorem mw462 : Cond.methodLink RX9 146 yX9_leadOf ∈ BW := bw_wsL_law_r20 _ (List.mem_of_getElem? (i := 6) rfl)
theorem mw463 : Cond.instanceMethod yX9_leadOf ∈ BW := bw_wsL_law_r20 _ (List.mem_of_getElem? (i := 7) rfl)
theorem mw464 : Cond.selects RX9 yX9_leadOf yX9_leadOf ∈ BW := bw_wsL_law_r20 _ (List.mem_of_getElem? (i := 8) rfl)
theorem mw465 : Cond.code yX9_leadOf cX9_leadOf 5 (some .int) ∈ BW := bw_wsL_law_r20 _ (List.mem_of_getElem? (i := 9) rfl)
theorem mw466 : Cond.methodLink RX9 179 yX9_passes ∈ BW := bw_wsL_law_r20 _ (List.mem_of_getElem? (i := 10) rfl)
theorem mw467 : Cond.instanceMethod yX9_passes ∈ BW := bw_wsL_law_r20 _ (List.mem_of_getElem? (i := 11) rfl)
theorem mw468 : Cond.selects RX9 yX9_passes yX9_passes ∈ BW := bw_wsL_law_r20 _ (List.mem_of_getElem? (i := 12) rfl)
theorem mw469 : Cond.code yX9_passes cX9_passes 4 (some .boolean) ∈ BW := bw_wsL_law_r20 _ (List.mem_of_getElem? (i := 13) rfl)
theorem mw470 : Cond.methodLink RX9 183 yX9_swayOf ∈ BW := bw_wsL_law_r20 _ (List.mem_of_getElem? (i := 14) rfl)
theorem mw471 : Cond.instanceMethod yX9_swayOf ∈ BW := bw_wsL_law_r20 _ (List.mem_of_getElem? (i := 15) rfl)
theorem mw472 : Cond.selects RX9 yX9_swayOf yX9_swayOf ∈ BW := bw_wsL_law_r20 _ (List.mem_of_getElem? (i := 16) rfl)
theorem mw473 : Cond.code yX9_swayOf cX9_swayOf 4 (some .int) ∈ BW := bw_wsL_law_r20 _ (List.mem_of_getElem? (i := 17) rfl)
theorem mw474 : Cond.methodLink RL 44 yX8_now ∈ BW := bw_wsL_law_r20 _ (List.mem_of_getElem? (i := 18) rfl)
theorem mw475 : Cond.instanceMethod yX8_now ∈ BW := bw_wsL_law_r20 _ (List.mem_of_getElem? (i := 19) rfl)
theorem mw476 : Cond.selects RX8 yX8_now yX8_now ∈ BW := bw_wsL_law_r20 _ (List.mem_of_getElem? (i := 20) rfl)
theorem mw477 : Cond.code yX8_now cX8_now 2 (some .int) ∈ BW := bw_wsL_law_r20 _ (List.mem_of_getElem? (i := 21) rfl)
theorem mw478 : Cond.fieldLink RX8 182 "OneJohn$Now" "years" "I" ∈ BW := bw_wsL_law_r20 _ (List.mem_of_getElem? (i := 22) rfl)
theorem mw479 : Cond.fieldLink RX8 185 "OneJohn$Now" "chest" "I" ∈ BW := bw_wsL_law_r20 _ (List.mem_of_getElem? (i := 23) rfl)
theorem mw480 : Cond.methodLink RX8 188 yX1_badOnes ∈ BW := bw_wsL_law_r21 _ (List.mem_of_getElem? (i := 0) rfl)
theorem mw481 : Cond.instanceMethod yX1_badOnes ∈ BW := bw_wsL_law_r21 _ (List.mem_of_getElem? (i := 1) rfl)
theorem mw482 : Cond.selects RX1 yX1_badOnes yX1_badOnes ∈ BW := bw_wsL_law_r21 _ (List.mem_of_getElem? (i := 2) rfl)
theorem mw483 : Cond.code yX1_badOnes cX1_badOnes 4 (some .int) ∈ BW := bw_wsL_law_r21 _ (List.mem_of_getElem? (i := 3) rfl)
theorem mw484 : Cond.methodLink RX1 107 yX1_quarrel ∈ BW := bw_wsL_law_r21 _ (List.mem_of_getElem? (i := 4) rfl)
theorem mw485 : Cond.instanceMethod yX1_quarrel ∈ BW := bw_wsL_law_r21 _ (List.mem_of_getElem? (i := 5) rfl)
theorem mw486 : Cond.selects RX1 yX1_quarrel yX1_quarrel ∈ BW := bw_wsL_law_r21 _ (List.mem_of_getElem? (i := 6) rfl)
theorem mw487 : Cond.code yX1_quarrel cX1_quarrel 3 (some .boolean) ∈ BW := bw_wsL_law_r21 _ (List.mem_of_getElem? (i := 7) rfl)
theorem mw488 : Cond.methodLink RX8 191 yX1_alone ∈ BW := bw_wsL_law_r21 _ (List.mem_of_getElem? (i := 8) rfl)
theorem mw489 : Cond.instanceMethod yX1_alone ∈ BW := bw_wsL_law_r21 _ (List.mem_of_getElem? (i := 9) rfl)
theorem mw490 : Cond.selects RX1 yX1_alone yX1_alone ∈ BW := bw_wsL_law_r21 _ (List.mem_of_getElem? (i := 10) rfl)
theorem mw491 : Cond.code yX1_alone cX1_alone 4 (some .int) ∈ BW := bw_wsL_law_r21 _ (List.mem_of_getElem? (i := 11) rfl)
theorem mw492 : Cond.methodLink RX8 194 yX1_restless ∈ BW := bw_wsL_law_r21 _ (List.mem_of_getElem? (i := 12) rfl)
theorem mw493 : Cond.instanceMethod yX1_restless ∈ BW := bw_wsL_law_r21 _ (List.mem_of_getElem? (i := 13) rfl)
theorem mw494 : Cond.selects RX1 yX1_restless yX1_restless ∈ BW := bw_wsL_law_r21 _ (List.mem_of_getElem? (i := 14) rfl)
theorem mw495 : Cond.code yX1_restless cX1_restless 3 (some .int) ∈ BW := bw_wsL_law_r21 _ (List.mem_of_getElem? (i := 15) rfl)
theorem mw496 : Cond.methodLink RX1 104 yX1_cheapestName ∈ BW := bw_wsL_law_r21 _ (List.mem_of_getElem? (i := 16) rfl)
theorem mw497 : Cond.instanceMethod yX1_cheapestName ∈ BW := bw_wsL_law_r21 _ (List.mem_of_getElem? (i := 17) rfl)
theorem mw498 : Cond.selects RX1 yX1_cheapestName yX1_cheapestName ∈ BW := bw_wsL_law_r21 _ (List.mem_of_getElem? (i := 18) rfl)
theorem mw499 : Cond.code yX1_cheapestName cX1_cheapestName 4 (some .int) ∈ BW := bw_wsL_law_r21 _ (List.mem_of_getElem? (i := 19) rfl)
theorem mw500 : Cond.methodLink RX1 97 yX1_tax ∈ BW := bw_wsL_law_r21 _ (List.mem_of_getElem? (i := 20) rfl)
theorem mw501 : Cond.methodLink RL 47 yX9_now ∈ BW := bw_wsL_law_r21 _ (List.mem_of_getElem? (i := 21) rfl)
theorem mw502 : Cond.instanceMethod yX9_now ∈ BW := bw_wsL_law_r21 _ (List.mem_of_getElem? (i := 22) rfl)
theorem mw503 : Cond.selects RX9 yX9_now yX9_now ∈ BW := bw_wsL_law_r21 _ (List.mem_of_getElem? (i := 23) rfl)
theorem mw504 : Cond.code yX9_now cX9_now 2 (some .int) ∈ BW := bw_wsL_law_r22 _ (List.mem_of_getElem? (i := 0) rfl)
theorem mw505 : Cond.methodLink RX9 192 yX9_limping ∈ BW := bw_wsL_law_r22 _ (List.mem_of_getElem? (i := 1) rfl)
theorem mw506 : Cond.instanceMethod yX9_limping ∈ BW := bw_wsL_law_r22 _ (List.mem_of_getElem? (i := 2) rfl)
theorem mw507 : Cond.selects RX9 yX9_limping yX9_limping ∈ BW := bw_wsL_law_r22 _ (List.mem_of_getElem? (i := 3) rfl)
theorem mw508 : Cond.code yX9_limping cX9_limping 3 (some .int) ∈ BW := bw_wsL_law_r22 _ (List.mem_of_getElem? (i := 4) rfl)
theorem mw509 : Cond.methodLink RX9 195 yX9_badOnes ∈ BW := bw_wsL_law_r22 _ (List.mem_of_getElem? (i := 5) rfl)
theorem mw510 : Cond.instanceMethod yX9_badOnes ∈ BW := bw_wsL_law_r22 _ (List.mem_of_getElem? (i := 6) rfl)
theorem mw511 : Cond.selects RX9 yX9_badOnes yX9_badOnes ∈ BW := bw_wsL_law_r22 _ (List.mem_of_getElem? (i := 7) rfl)
theorem mw512 : Cond.code yX9_badOnes cX9_badOnes 3 (some .int) ∈ BW := bw_wsL_law_r22 _ (List.mem_of_getElem? (i := 8) rfl)
theorem mw513 : Cond.methodLink RX9 198 yX9_alone ∈ BW := bw_wsL_law_r22 _ (List.mem_of_getElem? (i := 9) rfl)
theorem mw514 : Cond.instanceMethod yX9_alone ∈ BW := bw_wsL_law_r22 _ (List.mem_of_getElem? (i := 10) rfl)
theorem mw515 : Cond.selects RX9 yX9_alone yX9_alone ∈ BW := bw_wsL_law_r22 _ (List.mem_of_getElem? (i := 11) rfl)
theorem mw516 : Cond.code yX9_alone cX9_alone 3 (some .int) ∈ BW := bw_wsL_law_r22 _ (List.mem_of_getElem? (i := 12) rfl)
theorem mw517 : Cond.methodLink RX9 201 yX9_restless ∈ BW := bw_wsL_law_r22 _ (List.mem_of_getElem? (i := 13) rfl)
theorem mw518 : Cond.instanceMethod yX9_restless ∈ BW := bw_wsL_law_r22 _ (List.mem_of_getElem? (i := 14) rfl)
theorem mw519 : Cond.selects RX9 yX9_restless yX9_restless ∈ BW := bw_wsL_law_r22 _ (List.mem_of_getElem? (i := 15) rfl)
theorem mw520 : Cond.code yX9_restless cX9_restless 3 (some .int) ∈ BW := bw_wsL_law_r22 _ (List.mem_of_getElem? (i := 16) rfl)
theorem mw521 : Cond.methodLink RX9 186 yX9_cheapestOf ∈ BW := bw_wsL_law_r22 _ (List.mem_of_getElem? (i := 17) rfl)
theorem mw522 : Cond.instanceMethod yX9_cheapestOf ∈ BW := bw_wsL_law_r22 _ (List.mem_of_getElem? (i := 18) rfl)
theorem mw523 : Cond.selects RX9 yX9_cheapestOf yX9_cheapestOf ∈ BW := bw_wsL_law_r22 _ (List.mem_of_getElem? (i := 19) rfl)
theorem mw524 : Cond.code yX9_cheapestOf cX9_cheapestOf 4 (some .int) ∈ BW := bw_wsL_law_r22 _ (List.mem_of_getElem? (i := 20) rfl)
theorem mw525 : Cond.methodLink RX9 189 yX9_taxBy ∈ BW := bw_wsL_law_r22 _ (List.mem_of_getElem? (i := 21) rfl)
theorem mw526 : Cond.instanceMethod yX9_taxBy ∈ BW := bw_wsL_law_r22 _ (List.mem_of_getElem? (i := 22) rfl)
theorem mw527 : Cond.selects RX9 yX9_taxBy yX9_taxBy ∈ BW := bw_wsL_law_r22 _ (List.mem_of_getElem? (i := 23) rfl)
theorem mw528 : Cond.code yX9_taxBy cX9_taxBy 3 (some .int) ∈ BW := bw_wsL_law_r23 _ (List.mem_of_getElem? (i := 0) rfl)
theorem mw529 : Cond.methodLink RX9 212 yX9_asNow ∈ BW := bw_wsL_law_r23 _ (List.mem_of_getElem? (i := 1) rfl)
theorem mw530 : Cond.instanceMethod yX9_asNow ∈ BW := bw_wsL_law_r23 _ (List.mem_of_getElem? (i := 2) rfl)
theorem mw531 : Cond.selects RX9 yX9_asNow yX9_asNow ∈ BW := bw_wsL_law_r23 _ (List.mem_of_getElem? (i := 3) rfl)
theorem mw532 : Cond.code yX9_asNow cX9_asNow 2 none ∈ BW := bw_wsL_law_r23 _ (List.mem_of_getElem? (i := 4) rfl)
theorem mw533 : Cond.methodLink RL 48 yX8_hurts ∈ BW := bw_wsL_law_r23 _ (List.mem_of_getElem? (i := 5) rfl)
theorem mw534 : Cond.instanceMethod yX8_hurts ∈ BW := bw_wsL_law_r23 _ (List.mem_of_getElem? (i := 6) rfl)
theorem mw535 : Cond.selects RX8 yX8_hurts yX8_hurts ∈ BW := bw_wsL_law_r23 _ (List.mem_of_getElem? (i := 7) rfl)
theorem mw536 : Cond.code yX8_hurts cX8_hurts 4 (some .int) ∈ BW := bw_wsL_law_r23 _ (List.mem_of_getElem? (i := 8) rfl)
theorem mw537 : Cond.methodLink RX8 197 yX3_remember ∈ BW := bw_wsL_law_r23 _ (List.mem_of_getElem? (i := 9) rfl)
theorem mw538 : Cond.instanceMethod yX3_remember ∈ BW := bw_wsL_law_r23 _ (List.mem_of_getElem? (i := 10) rfl)
theorem mw539 : Cond.selects RX3 yX3_remember yX3_remember ∈ BW := bw_wsL_law_r23 _ (List.mem_of_getElem? (i := 11) rfl)
theorem mw540 : Cond.code yX3_remember cX3_remember 2 none ∈ BW := bw_wsL_law_r23 _ (List.mem_of_getElem? (i := 12) rfl)
theorem mw541 : Cond.methodLink RX3 29 Lib.Math.min.name ∈ BW := bw_wsL_law_r23 _ (List.mem_of_getElem? (i := 13) rfl)
theorem mw542 : Cond.static Lib.Math.min.name ∈ BW := bw_wsL_law_r23 _ (List.mem_of_getElem? (i := 14) rfl)
theorem mw543 : Cond.code Lib.Math.min.name Lib.Math.min.code 2 (some .int) ∈ BW := bw_wsL_law_r23 _ (List.mem_of_getElem? (i := 15) rfl)
theorem mw544 : Cond.methodLink RX3 25 yX2_take ∈ BW := bw_wsL_law_r23 _ (List.mem_of_getElem? (i := 16) rfl)
theorem mw545 : Cond.methodLink RL 51 yX9_hurts ∈ BW := bw_wsL_law_r23 _ (List.mem_of_getElem? (i := 17) rfl)
theorem mw546 : Cond.instanceMethod yX9_hurts ∈ BW := bw_wsL_law_r23 _ (List.mem_of_getElem? (i := 18) rfl)
theorem mw547 : Cond.selects RX9 yX9_hurts yX9_hurts ∈ BW := bw_wsL_law_r23 _ (List.mem_of_getElem? (i := 19) rfl)
theorem mw548 : Cond.code yX9_hurts cX9_hurts 4 (some .int) ∈ BW := bw_wsL_law_r23 _ (List.mem_of_getElem? (i := 20) rfl)
theorem mw549 : Cond.methodLink RX9 204 yX9_notes ∈ BW := bw_wsL_law_r23 _ (List.mem_of_getElem? (i := 21) rfl)
theorem mw550 : Cond.instanceMethod yX9_notes ∈ BW := bw_wsL_law_r23 _ (List.mem_of_getElem? (i := 22) rfl)
theorem mw551 : Cond.selects RX9 yX9_notes yX9_notes ∈ BW := bw_wsL_law_r23 _ (List.mem_of_getElem? (i := 23) rfl)
theorem mw552 : Cond.code yX9_notes cX9_notes 2 none ∈ BW := bw_wsL_law_r24 _ (List.mem_of_getElem? (i := 0) rfl)
theorem mw553 : Cond.methodLink RL 52 yX8_deeds ∈ BW := bw_wsL_law_r24 _ (List.mem_of_getElem? (i := 1) rfl)
theorem mw554 : Cond.instanceMethod yX8_deeds ∈ BW := bw_wsL_law_r24 _ (List.mem_of_getElem? (i := 2) rfl)
theorem mw555 : Cond.selects RX8 yX8_deeds yX8_deeds ∈ BW := bw_wsL_law_r24 _ (List.mem_of_getElem? (i := 3) rfl)
theorem mw556 : Cond.code yX8_deeds cX8_deeds 2 (some .int) ∈ BW := bw_wsL_law_r24 _ (List.mem_of_getElem? (i := 4) rfl)
theorem mw557 : Cond.methodLink RL 55 yX9_deeds ∈ BW := bw_wsL_law_r24 _ (List.mem_of_getElem? (i := 5) rfl)
theorem mw558 : Cond.instanceMethod yX9_deeds ∈ BW := bw_wsL_law_r24 _ (List.mem_of_getElem? (i := 6) rfl)
theorem mw559 : Cond.selects RX9 yX9_deeds yX9_deeds ∈ BW := bw_wsL_law_r24 _ (List.mem_of_getElem? (i := 7) rfl)
theorem mw560 : Cond.code yX9_deeds cX9_deeds 2 (some .int) ∈ BW := bw_wsL_law_r24 _ (List.mem_of_getElem? (i := 8) rfl)
theorem mw561 : Cond.methodLink RL 56 yX8_earns ∈ BW := bw_wsL_law_r24 _ (List.mem_of_getElem? (i := 9) rfl)
theorem mw562 : Cond.instanceMethod yX8_earns ∈ BW := bw_wsL_law_r24 _ (List.mem_of_getElem? (i := 10) rfl)
theorem mw563 : Cond.selects RX8 yX8_earns yX8_earns ∈ BW := bw_wsL_law_r24 _ (List.mem_of_getElem? (i := 11) rfl)
theorem mw564 : Cond.code yX8_earns cX8_earns 3 (some .int) ∈ BW := bw_wsL_law_r24 _ (List.mem_of_getElem? (i := 12) rfl)
theorem mw565 : Cond.methodLink RX8 201 Lib.Math.min.name ∈ BW := bw_wsL_law_r24 _ (List.mem_of_getElem? (i := 13) rfl)
theorem mw566 : Cond.methodLink RL 59 yX9_earns ∈ BW := bw_wsL_law_r24 _ (List.mem_of_getElem? (i := 14) rfl)
theorem mw567 : Cond.instanceMethod yX9_earns ∈ BW := bw_wsL_law_r24 _ (List.mem_of_getElem? (i := 15) rfl)
theorem mw568 : Cond.selects RX9 yX9_earns yX9_earns ∈ BW := bw_wsL_law_r24 _ (List.mem_of_getElem? (i := 16) rfl)
theorem mw569 : Cond.code yX9_earns cX9_earns 4 (some .int) ∈ BW := bw_wsL_law_r24 _ (List.mem_of_getElem? (i := 17) rfl)
theorem mw570 : Cond.methodLink RL 60 yX8_names ∈ BW := bw_wsL_law_r24 _ (List.mem_of_getElem? (i := 18) rfl)
theorem mw571 : Cond.instanceMethod yX8_names ∈ BW := bw_wsL_law_r24 _ (List.mem_of_getElem? (i := 19) rfl)
theorem mw572 : Cond.selects RX8 yX8_names yX8_names ∈ BW := bw_wsL_law_r24 _ (List.mem_of_getElem? (i := 20) rfl)
theorem mw573 : Cond.code yX8_names cX8_names 4 (some .int) ∈ BW := bw_wsL_law_r24 _ (List.mem_of_getElem? (i := 21) rfl)
theorem mw574 : Cond.methodLink RL 63 yX9_names ∈ BW := bw_wsL_law_r24 _ (List.mem_of_getElem? (i := 22) rfl)
theorem mw575 : Cond.instanceMethod yX9_names ∈ BW := bw_wsL_law_r24 _ (List.mem_of_getElem? (i := 23) rfl)
theorem mw576 : Cond.selects RX9 yX9_names yX9_names ∈ BW := bw_wsL_law_r25 _ (List.mem_of_getElem? (i := 0) rfl)
theorem mw577 : Cond.code yX9_names cX9_names 4 (some .int) ∈ BW := bw_wsL_law_r25 _ (List.mem_of_getElem? (i := 1) rfl)
theorem mw578 : Cond.methodLink RL 64 yX8_laws ∈ BW := bw_wsL_law_r25 _ (List.mem_of_getElem? (i := 2) rfl)
theorem mw579 : Cond.instanceMethod yX8_laws ∈ BW := bw_wsL_law_r25 _ (List.mem_of_getElem? (i := 3) rfl)
theorem mw580 : Cond.selects RX8 yX8_laws yX8_laws ∈ BW := bw_wsL_law_r25 _ (List.mem_of_getElem? (i := 4) rfl)
theorem mw581 : Cond.code yX8_laws cX8_laws 3 (some .int) ∈ BW := bw_wsL_law_r25 _ (List.mem_of_getElem? (i := 5) rfl)
theorem mw582 : Cond.methodLink RL 67 yX9_laws ∈ BW := bw_wsL_law_r25 _ (List.mem_of_getElem? (i := 6) rfl)
theorem mw583 : Cond.instanceMethod yX9_laws ∈ BW := bw_wsL_law_r25 _ (List.mem_of_getElem? (i := 7) rfl)
theorem mw584 : Cond.selects RX9 yX9_laws yX9_laws ∈ BW := bw_wsL_law_r25 _ (List.mem_of_getElem? (i := 8) rfl)
theorem mw585 : Cond.code yX9_laws cX9_laws 3 (some .int) ∈ BW := bw_wsL_law_r25 _ (List.mem_of_getElem? (i := 9) rfl)
theorem mw586 : Cond.methodLink RL 68 yX8_year ∈ BW := bw_wsL_law_r25 _ (List.mem_of_getElem? (i := 10) rfl)
theorem mw587 : Cond.instanceMethod yX8_year ∈ BW := bw_wsL_law_r25 _ (List.mem_of_getElem? (i := 11) rfl)
theorem mw588 : Cond.selects RX8 yX8_year yX8_year ∈ BW := bw_wsL_law_r25 _ (List.mem_of_getElem? (i := 12) rfl)
theorem mw589 : Cond.code yX8_year cX8_year 1 (some .int) ∈ BW := bw_wsL_law_r25 _ (List.mem_of_getElem? (i := 13) rfl)
theorem mw590 : Cond.methodLink RX8 204 yX1_payTax ∈ BW := bw_wsL_law_r25 _ (List.mem_of_getElem? (i := 14) rfl)
theorem mw591 : Cond.instanceMethod yX1_payTax ∈ BW := bw_wsL_law_r25 _ (List.mem_of_getElem? (i := 15) rfl)
theorem mw592 : Cond.selects RX1 yX1_payTax yX1_payTax ∈ BW := bw_wsL_law_r25 _ (List.mem_of_getElem? (i := 16) rfl)
theorem mw593 : Cond.code yX1_payTax cX1_payTax 3 (some .int) ∈ BW := bw_wsL_law_r25 _ (List.mem_of_getElem? (i := 17) rfl)
theorem mw594 : Cond.methodLink RX1 100 Lib.Math.min.name ∈ BW := bw_wsL_law_r25 _ (List.mem_of_getElem? (i := 18) rfl)
theorem mw595 : Cond.constant RX1 103 (999999) ∈ BW := bw_wsL_law_r25 _ (List.mem_of_getElem? (i := 19) rfl)
theorem mw596 : Cond.methodLink RL 71 yX9_year ∈ BW := bw_wsL_law_r25 _ (List.mem_of_getElem? (i := 20) rfl)
theorem mw597 : Cond.instanceMethod yX9_year ∈ BW := bw_wsL_law_r25 _ (List.mem_of_getElem? (i := 21) rfl)
theorem mw598 : Cond.selects RX9 yX9_year yX9_year ∈ BW := bw_wsL_law_r25 _ (List.mem_of_getElem? (i := 22) rfl)
theorem mw599 : Cond.code yX9_year cX9_year 3 (some .int) ∈ BW := bw_wsL_law_r25 _ (List.mem_of_getElem? (i := 23) rfl)
theorem mw600 : Cond.constant RX9 207 (999999) ∈ BW := bw_wsL_law_r26 _ (List.mem_of_getElem? (i := 0) rfl)
theorem mw601 : Cond.methodLink RL 72 yX8_undo ∈ BW := bw_wsL_law_r26 _ (List.mem_of_getElem? (i := 1) rfl)
theorem mw602 : Cond.instanceMethod yX8_undo ∈ BW := bw_wsL_law_r26 _ (List.mem_of_getElem? (i := 2) rfl)
theorem mw603 : Cond.selects RX8 yX8_undo yX8_undo ∈ BW := bw_wsL_law_r26 _ (List.mem_of_getElem? (i := 3) rfl)
theorem mw604 : Cond.code yX8_undo cX8_undo 1 (some .int) ∈ BW := bw_wsL_law_r26 _ (List.mem_of_getElem? (i := 4) rfl)
theorem mw605 : Cond.methodLink RX8 207 yX3_recall ∈ BW := bw_wsL_law_r26 _ (List.mem_of_getElem? (i := 5) rfl)
theorem mw606 : Cond.instanceMethod yX3_recall ∈ BW := bw_wsL_law_r26 _ (List.mem_of_getElem? (i := 6) rfl)
theorem mw607 : Cond.selects RX3 yX3_recall yX3_recall ∈ BW := bw_wsL_law_r26 _ (List.mem_of_getElem? (i := 7) rfl)
theorem mw608 : Cond.code yX3_recall cX3_recall 2 none ∈ BW := bw_wsL_law_r26 _ (List.mem_of_getElem? (i := 8) rfl)
theorem mw609 : Cond.methodLink RL 75 yX9_undo ∈ BW := bw_wsL_law_r26 _ (List.mem_of_getElem? (i := 9) rfl)
theorem mw610 : Cond.instanceMethod yX9_undo ∈ BW := bw_wsL_law_r26 _ (List.mem_of_getElem? (i := 10) rfl)
theorem mw611 : Cond.selects RX9 yX9_undo yX9_undo ∈ BW := bw_wsL_law_r26 _ (List.mem_of_getElem? (i := 11) rfl)
theorem mw612 : Cond.code yX9_undo cX9_undo 2 (some .int) ∈ BW := bw_wsL_law_r26 _ (List.mem_of_getElem? (i := 12) rfl)
theorem mw613 : Cond.methodLink RL 76 yX8_apart ∈ BW := bw_wsL_law_r26 _ (List.mem_of_getElem? (i := 13) rfl)
theorem mw614 : Cond.instanceMethod yX8_apart ∈ BW := bw_wsL_law_r26 _ (List.mem_of_getElem? (i := 14) rfl)
theorem mw615 : Cond.selects RX8 yX8_apart yX8_apart ∈ BW := bw_wsL_law_r26 _ (List.mem_of_getElem? (i := 15) rfl)
theorem mw616 : Cond.code yX8_apart cX8_apart 2 (some .int) ∈ BW := bw_wsL_law_r26 _ (List.mem_of_getElem? (i := 16) rfl)
theorem mw617 : Cond.fieldLink RX8 217 "OneJohn$Renaming" "fewest" "I" ∈ BW := bw_wsL_law_r26 _ (List.mem_of_getElem? (i := 17) rfl)
theorem mw618 : Cond.fieldLink RX8 220 "OneJohn$Renaming" "best" "[I" ∈ BW := bw_wsL_law_r26 _ (List.mem_of_getElem? (i := 18) rfl)
theorem mw619 : Cond.methodLink RX8 210 yX5_search ∈ BW := bw_wsL_law_r26 _ (List.mem_of_getElem? (i := 19) rfl)
theorem mw620 : Cond.instanceMethod yX5_search ∈ BW := bw_wsL_law_r26 _ (List.mem_of_getElem? (i := 20) rfl)
theorem mw621 : Cond.selects RX5 yX5_search yX5_search ∈ BW := bw_wsL_law_r26 _ (List.mem_of_getElem? (i := 21) rfl)
theorem mw622 : Cond.code yX5_search cX5_search 2 none ∈ BW := bw_wsL_law_r26 _ (List.mem_of_getElem? (i := 22) rfl)
theorem mw623 : Cond.methodLink RX5 22 yX5_nameFrom ∈ BW := bw_wsL_law_r26 _ (List.mem_of_getElem? (i := 23) rfl)
theorem mw624 : Cond.instanceMethod yX5_nameFrom ∈ BW := bw_wsL_law_r27 _ (List.mem_of_getElem? (i := 0) rfl)
theorem mw625 : Cond.selects RX5 yX5_nameFrom yX5_nameFrom ∈ BW := bw_wsL_law_r27 _ (List.mem_of_getElem? (i := 1) rfl)
theorem mw626 : Cond.code yX5_nameFrom cX5_nameFrom 5 none ∈ BW := bw_wsL_law_r27 _ (List.mem_of_getElem? (i := 2) rfl)
theorem mw627 : Cond.fieldLink RX5 26 "OneJohn$Land" "people" "I" ∈ BW := bw_wsL_law_r27 _ (List.mem_of_getElem? (i := 3) rfl)
theorem mw628 : Cond.methodLink RX5 31 arraycopyName ∈ BW := bw_wsL_law_r27 _ (List.mem_of_getElem? (i := 4) rfl)
theorem mw629 : Cond.fieldLink RX5 37 "OneJohn$Land" "nameCount" "I" ∈ BW := bw_wsL_law_r27 _ (List.mem_of_getElem? (i := 5) rfl)
theorem mw630 : Cond.fieldLink RX5 44 "OneJohn$Land" "now" "LOneJohn$Now;" ∈ BW := bw_wsL_law_r27 _ (List.mem_of_getElem? (i := 6) rfl)
theorem mw631 : Cond.fieldLink RX5 48 "OneJohn$Now" "names" "[I" ∈ BW := bw_wsL_law_r27 _ (List.mem_of_getElem? (i := 7) rfl)
theorem mw632 : Cond.methodLink RX5 40 yX5_isFree ∈ BW := bw_wsL_law_r27 _ (List.mem_of_getElem? (i := 8) rfl)
theorem mw633 : Cond.instanceMethod yX5_isFree ∈ BW := bw_wsL_law_r27 _ (List.mem_of_getElem? (i := 9) rfl)
theorem mw634 : Cond.selects RX5 yX5_isFree yX5_isFree ∈ BW := bw_wsL_law_r27 _ (List.mem_of_getElem? (i := 10) rfl)
theorem mw635 : Cond.code yX5_isFree cX5_isFree 5 (some .boolean) ∈ BW := bw_wsL_law_r27 _ (List.mem_of_getElem? (i := 11) rfl)
theorem mw636 : Cond.methodLink RX5 53 yX1_quarrel ∈ BW := bw_wsL_law_r27 _ (List.mem_of_getElem? (i := 12) rfl)
theorem mw637 : Cond.methodLink RX8 213 yX5_found ∈ BW := bw_wsL_law_r27 _ (List.mem_of_getElem? (i := 13) rfl)
theorem mw638 : Cond.instanceMethod yX5_found ∈ BW := bw_wsL_law_r27 _ (List.mem_of_getElem? (i := 14) rfl)
theorem mw639 : Cond.selects RX5 yX5_found yX5_found ∈ BW := bw_wsL_law_r27 _ (List.mem_of_getElem? (i := 15) rfl)
theorem mw640 : Cond.code yX5_found cX5_found 1 (some .boolean) ∈ BW := bw_wsL_law_r27 _ (List.mem_of_getElem? (i := 16) rfl)
theorem mw641 : Cond.methodLink RL 79 yX9_apart ∈ BW := bw_wsL_law_r27 _ (List.mem_of_getElem? (i := 17) rfl)
theorem mw642 : Cond.instanceMethod yX9_apart ∈ BW := bw_wsL_law_r27 _ (List.mem_of_getElem? (i := 18) rfl)
theorem mw643 : Cond.selects RX9 yX9_apart yX9_apart ∈ BW := bw_wsL_law_r27 _ (List.mem_of_getElem? (i := 19) rfl)
theorem mw644 : Cond.code yX9_apart cX9_apart 7 (some .int) ∈ BW := bw_wsL_law_r27 _ (List.mem_of_getElem? (i := 20) rfl)
theorem mw645 : Cond.constant RX9 208 (1000000) ∈ BW := bw_wsL_law_r27 _ (List.mem_of_getElem? (i := 21) rfl)
theorem mw646 : Cond.methodLink RX9 209 yX9_renamedBy ∈ BW := bw_wsL_law_r27 _ (List.mem_of_getElem? (i := 22) rfl)
theorem mw647 : Cond.instanceMethod yX9_renamedBy ∈ BW := bw_wsL_law_r27 _ (List.mem_of_getElem? (i := 23) rfl)
theorem mw648 : Cond.selects RX9 yX9_renamedBy yX9_renamedBy ∈ BW := bw_wsL_law_r28 _ (List.mem_of_getElem? (i := 0) rfl)
theorem mw649 : Cond.code yX9_renamedBy cX9_renamedBy 6 (some .int) ∈ BW := bw_wsL_law_r28 _ (List.mem_of_getElem? (i := 1) rfl)
theorem mw650 : Cond.methodLink RL 80 yX8_cheapest ∈ BW := bw_wsL_law_r28 _ (List.mem_of_getElem? (i := 2) rfl)
theorem mw651 : Cond.instanceMethod yX8_cheapest ∈ BW := bw_wsL_law_r28 _ (List.mem_of_getElem? (i := 3) rfl)
theorem mw652 : Cond.selects RX8 yX8_cheapest yX8_cheapest ∈ BW := bw_wsL_law_r28 _ (List.mem_of_getElem? (i := 4) rfl)
theorem mw653 : Cond.code yX8_cheapest cX8_cheapest 2 (some .int) ∈ BW := bw_wsL_law_r28 _ (List.mem_of_getElem? (i := 5) rfl)
theorem mw654 : Cond.methodLink RX8 223 yX1_cheapestName ∈ BW := bw_wsL_law_r28 _ (List.mem_of_getElem? (i := 6) rfl)
theorem mw655 : Cond.methodLink RL 83 yX9_cheapest ∈ BW := bw_wsL_law_r28 _ (List.mem_of_getElem? (i := 7) rfl)
theorem mw656 : Cond.instanceMethod yX9_cheapest ∈ BW := bw_wsL_law_r28 _ (List.mem_of_getElem? (i := 8) rfl)
theorem mw657 : Cond.selects RX9 yX9_cheapest yX9_cheapest ∈ BW := bw_wsL_law_r28 _ (List.mem_of_getElem? (i := 9) rfl)
theorem mw658 : Cond.code yX9_cheapest cX9_cheapest 2 (some .int) ∈ BW := bw_wsL_law_r28 _ (List.mem_of_getElem? (i := 10) rfl)
theorem mw659 : Cond.methodLink RL 84 yX8_tells ∈ BW := bw_wsL_law_r28 _ (List.mem_of_getElem? (i := 11) rfl)
theorem mw660 : Cond.instanceMethod yX8_tells ∈ BW := bw_wsL_law_r28 _ (List.mem_of_getElem? (i := 12) rfl)
theorem mw661 : Cond.selects RX8 yX8_tells yX8_tells ∈ BW := bw_wsL_law_r28 _ (List.mem_of_getElem? (i := 13) rfl)
theorem mw662 : Cond.code yX8_tells cX8_tells 3 (some .int) ∈ BW := bw_wsL_law_r28 _ (List.mem_of_getElem? (i := 14) rfl)
theorem mw663 : Cond.methodLink RX8 226 yX0_add ∈ BW := bw_wsL_law_r28 _ (List.mem_of_getElem? (i := 15) rfl)
theorem mw664 : Cond.instanceMethod yX0_add ∈ BW := bw_wsL_law_r28 _ (List.mem_of_getElem? (i := 16) rfl)
theorem mw665 : Cond.selects RX0 yX0_add yX0_add ∈ BW := bw_wsL_law_r28 _ (List.mem_of_getElem? (i := 17) rfl)
theorem mw666 : Cond.code yX0_add cX0_add 3 (some .int) ∈ BW := bw_wsL_law_r28 _ (List.mem_of_getElem? (i := 18) rfl)
theorem mw667 : Cond.methodLink RL 87 yX9_tells ∈ BW := bw_wsL_law_r28 _ (List.mem_of_getElem? (i := 19) rfl)
theorem mw668 : Cond.instanceMethod yX9_tells ∈ BW := bw_wsL_law_r28 _ (List.mem_of_getElem? (i := 20) rfl)
theorem mw669 : Cond.selects RX9 yX9_tells yX9_tells ∈ BW := bw_wsL_law_r28 _ (List.mem_of_getElem? (i := 21) rfl)
theorem mw670 : Cond.code yX9_tells cX9_tells 3 (some .int) ∈ BW := bw_wsL_law_r28 _ (List.mem_of_getElem? (i := 22) rfl)
theorem mw671 : Cond.methodLink RL 88 yX8_record ∈ BW := bw_wsL_law_r28 _ (List.mem_of_getElem? (i := 23) rfl)
theorem mw672 : Cond.instanceMethod yX8_record ∈ BW := bw_wsL_law_r29 _ (List.mem_of_getElem? (i := 0) rfl)
theorem mw673 : Cond.selects RX8 yX8_record yX8_record ∈ BW := bw_wsL_law_r29 _ (List.mem_of_getElem? (i := 1) rfl)
theorem mw674 : Cond.code yX8_record cX8_record 3 (some .int) ∈ BW := bw_wsL_law_r29 _ (List.mem_of_getElem? (i := 2) rfl)
theorem mw675 : Cond.methodLink RL 91 yX9_record ∈ BW := bw_wsL_law_r29 _ (List.mem_of_getElem? (i := 3) rfl)
theorem mw676 : Cond.instanceMethod yX9_record ∈ BW := bw_wsL_law_r29 _ (List.mem_of_getElem? (i := 4) rfl)
theorem mw677 : Cond.selects RX9 yX9_record yX9_record ∈ BW := bw_wsL_law_r29 _ (List.mem_of_getElem? (i := 5) rfl)
theorem mw678 : Cond.code yX9_record cX9_record 3 (some .int) ∈ BW := bw_wsL_law_r29 _ (List.mem_of_getElem? (i := 6) rfl)
theorem mw679 : Cond.methodLink RL 92 yX8_forget ∈ BW := bw_wsL_law_r29 _ (List.mem_of_getElem? (i := 7) rfl)
theorem mw680 : Cond.instanceMethod yX8_forget ∈ BW := bw_wsL_law_r29 _ (List.mem_of_getElem? (i := 8) rfl)
theorem mw681 : Cond.selects RX8 yX8_forget yX8_forget ∈ BW := bw_wsL_law_r29 _ (List.mem_of_getElem? (i := 9) rfl)
theorem mw682 : Cond.code yX8_forget cX8_forget 2 (some .int) ∈ BW := bw_wsL_law_r29 _ (List.mem_of_getElem? (i := 10) rfl)
theorem mw683 : Cond.methodLink RL 95 yX9_forget ∈ BW := bw_wsL_law_r29 _ (List.mem_of_getElem? (i := 11) rfl)
theorem mw684 : Cond.instanceMethod yX9_forget ∈ BW := bw_wsL_law_r29 _ (List.mem_of_getElem? (i := 12) rfl)
theorem mw685 : Cond.selects RX9 yX9_forget yX9_forget ∈ BW := bw_wsL_law_r29 _ (List.mem_of_getElem? (i := 13) rfl)
theorem mw686 : Cond.code yX9_forget cX9_forget 2 (some .int) ∈ BW := bw_wsL_law_r29 _ (List.mem_of_getElem? (i := 14) rfl)
theorem mw687 : Cond.methodLink RL 96 yX8_who ∈ BW := bw_wsL_law_r29 _ (List.mem_of_getElem? (i := 15) rfl)
theorem mw688 : Cond.instanceMethod yX8_who ∈ BW := bw_wsL_law_r29 _ (List.mem_of_getElem? (i := 16) rfl)
theorem mw689 : Cond.selects RX8 yX8_who yX8_who ∈ BW := bw_wsL_law_r29 _ (List.mem_of_getElem? (i := 17) rfl)
theorem mw690 : Cond.code yX8_who cX8_who 4 (some .int) ∈ BW := bw_wsL_law_r29 _ (List.mem_of_getElem? (i := 18) rfl)
theorem mw691 : Cond.fieldLink RX8 235 "OneJohn$Land" "people" "I" ∈ BW := bw_wsL_law_r29 _ (List.mem_of_getElem? (i := 19) rfl)
theorem mw692 : Cond.methodLink RX8 229 yX1_limpingIf ∈ BW := bw_wsL_law_r29 _ (List.mem_of_getElem? (i := 20) rfl)
theorem mw693 : Cond.methodLink RX8 232 yX0_agree ∈ BW := bw_wsL_law_r29 _ (List.mem_of_getElem? (i := 21) rfl)
theorem mw694 : Cond.instanceMethod yX0_agree ∈ BW := bw_wsL_law_r29 _ (List.mem_of_getElem? (i := 22) rfl)
theorem mw695 : Cond.selects RX0 yX0_agree yX0_agree ∈ BW := bw_wsL_law_r29 _ (List.mem_of_getElem? (i := 23) rfl)
theorem mw696 : Cond.code yX0_agree cX0_agree 3 (some .boolean) ∈ BW := bw_wsL_law_r30 _ (List.mem_of_getElem? (i := 0) rfl)
theorem mw697 : Cond.methodLink RL 99 yX9_who ∈ BW := bw_wsL_law_r30 _ (List.mem_of_getElem? (i := 1) rfl)
theorem mw698 : Cond.instanceMethod yX9_who ∈ BW := bw_wsL_law_r30 _ (List.mem_of_getElem? (i := 2) rfl)
theorem mw699 : Cond.selects RX9 yX9_who yX9_who ∈ BW := bw_wsL_law_r30 _ (List.mem_of_getElem? (i := 3) rfl)
theorem mw700 : Cond.code yX9_who cX9_who 3 (some .int) ∈ BW := bw_wsL_law_r30 _ (List.mem_of_getElem? (i := 4) rfl)
theorem mw701 : Cond.methodLink RX9 215 yX9_isAsTold ∈ BW := bw_wsL_law_r30 _ (List.mem_of_getElem? (i := 5) rfl)
theorem mw702 : Cond.instanceMethod yX9_isAsTold ∈ BW := bw_wsL_law_r30 _ (List.mem_of_getElem? (i := 6) rfl)
theorem mw703 : Cond.selects RX9 yX9_isAsTold yX9_isAsTold ∈ BW := bw_wsL_law_r30 _ (List.mem_of_getElem? (i := 7) rfl)
theorem mw704 : Cond.code yX9_isAsTold cX9_isAsTold 3 (some .boolean) ∈ BW := bw_wsL_law_r30 _ (List.mem_of_getElem? (i := 8) rfl)
theorem mw705 : Cond.methodLink RL 100 yX8_which ∈ BW := bw_wsL_law_r30 _ (List.mem_of_getElem? (i := 9) rfl)
theorem mw706 : Cond.instanceMethod yX8_which ∈ BW := bw_wsL_law_r30 _ (List.mem_of_getElem? (i := 10) rfl)
theorem mw707 : Cond.selects RX8 yX8_which yX8_which ∈ BW := bw_wsL_law_r30 _ (List.mem_of_getElem? (i := 11) rfl)
theorem mw708 : Cond.code yX8_which cX8_which 6 (some .int) ∈ BW := bw_wsL_law_r30 _ (List.mem_of_getElem? (i := 12) rfl)
theorem mw709 : Cond.methodLink RX8 238 yX8_allIsSo ∈ BW := bw_wsL_law_r30 _ (List.mem_of_getElem? (i := 13) rfl)
theorem mw710 : Cond.instanceMethod yX8_allIsSo ∈ BW := bw_wsL_law_r30 _ (List.mem_of_getElem? (i := 14) rfl)
theorem mw711 : Cond.selects RX8 yX8_allIsSo yX8_allIsSo ∈ BW := bw_wsL_law_r30 _ (List.mem_of_getElem? (i := 15) rfl)
theorem mw712 : Cond.code yX8_allIsSo cX8_allIsSo 2 (some .boolean) ∈ BW := bw_wsL_law_r30 _ (List.mem_of_getElem? (i := 16) rfl)
theorem mw713 : Cond.methodLink RX8 241 yX1_passing ∈ BW := bw_wsL_law_r30 _ (List.mem_of_getElem? (i := 17) rfl)
theorem mw714 : Cond.instanceMethod yX1_passing ∈ BW := bw_wsL_law_r30 _ (List.mem_of_getElem? (i := 18) rfl)
theorem mw715 : Cond.selects RX1 yX1_passing yX1_passing ∈ BW := bw_wsL_law_r30 _ (List.mem_of_getElem? (i := 19) rfl)
theorem mw716 : Cond.code yX1_passing cX1_passing 4 (some .int) ∈ BW := bw_wsL_law_r30 _ (List.mem_of_getElem? (i := 20) rfl)
theorem mw717 : Cond.methodLink RL 103 yX9_which ∈ BW := bw_wsL_law_r30 _ (List.mem_of_getElem? (i := 21) rfl)
theorem mw718 : Cond.instanceMethod yX9_which ∈ BW := bw_wsL_law_r30 _ (List.mem_of_getElem? (i := 22) rfl)
theorem mw719 : Cond.selects RX9 yX9_which yX9_which ∈ BW := bw_wsL_law_r30 _ (List.mem_of_getElem? (i := 23) rfl)
theorem mw720 : Cond.code yX9_which cX9_which 6 (some .int) ∈ BW := bw_wsL_law_r31 _ (List.mem_of_getElem? (i := 0) rfl)
theorem mw721 : Cond.methodLink RX9 218 yX9_isAsRecorded ∈ BW := bw_wsL_law_r31 _ (List.mem_of_getElem? (i := 1) rfl)
theorem mw722 : Cond.instanceMethod yX9_isAsRecorded ∈ BW := bw_wsL_law_r31 _ (List.mem_of_getElem? (i := 2) rfl)
theorem mw723 : Cond.selects RX9 yX9_isAsRecorded yX9_isAsRecorded ∈ BW := bw_wsL_law_r31 _ (List.mem_of_getElem? (i := 3) rfl)
theorem mw724 : Cond.code yX9_isAsRecorded cX9_isAsRecorded 3 (some .boolean) ∈ BW := bw_wsL_law_r31 _ (List.mem_of_getElem? (i := 4) rfl)
theorem mw725 : Cond.methodLink RL 104 yX8_married ∈ BW := bw_wsL_law_r31 _ (List.mem_of_getElem? (i := 5) rfl)
theorem mw726 : Cond.instanceMethod yX8_married ∈ BW := bw_wsL_law_r31 _ (List.mem_of_getElem? (i := 6) rfl)
theorem mw727 : Cond.selects RX8 yX8_married yX8_married ∈ BW := bw_wsL_law_r31 _ (List.mem_of_getElem? (i := 7) rfl)
theorem mw728 : Cond.code yX8_married cX8_married 2 (some .int) ∈ BW := bw_wsL_law_r31 _ (List.mem_of_getElem? (i := 8) rfl)
theorem mw729 : Cond.fieldLink RX8 245 "OneJohn$Wedding" "most" "I" ∈ BW := bw_wsL_law_r31 _ (List.mem_of_getElem? (i := 9) rfl)
theorem mw730 : Cond.fieldLink RX8 248 "OneJohn$Wedding" "best" "[I" ∈ BW := bw_wsL_law_r31 _ (List.mem_of_getElem? (i := 10) rfl)
theorem mw731 : Cond.methodLink RX8 244 yX7_search ∈ BW := bw_wsL_law_r31 _ (List.mem_of_getElem? (i := 11) rfl)
theorem mw732 : Cond.instanceMethod yX7_search ∈ BW := bw_wsL_law_r31 _ (List.mem_of_getElem? (i := 12) rfl)
theorem mw733 : Cond.selects RX7 yX7_search yX7_search ∈ BW := bw_wsL_law_r31 _ (List.mem_of_getElem? (i := 13) rfl)
theorem mw734 : Cond.code yX7_search cX7_search 3 none ∈ BW := bw_wsL_law_r31 _ (List.mem_of_getElem? (i := 14) rfl)
theorem mw735 : Cond.methodLink RX7 22 yX7_pairFrom ∈ BW := bw_wsL_law_r31 _ (List.mem_of_getElem? (i := 15) rfl)
theorem mw736 : Cond.instanceMethod yX7_pairFrom ∈ BW := bw_wsL_law_r31 _ (List.mem_of_getElem? (i := 16) rfl)
theorem mw737 : Cond.selects RX7 yX7_pairFrom yX7_pairFrom ∈ BW := bw_wsL_law_r31 _ (List.mem_of_getElem? (i := 17) rfl)
theorem mw738 : Cond.code yX7_pairFrom cX7_pairFrom 5 none ∈ BW := bw_wsL_law_r31 _ (List.mem_of_getElem? (i := 18) rfl)
theorem mw739 : Cond.fieldLink RX7 26 "OneJohn$Land" "people" "I" ∈ BW := bw_wsL_law_r31 _ (List.mem_of_getElem? (i := 19) rfl)
theorem mw740 : Cond.methodLink RX7 31 arraycopyName ∈ BW := bw_wsL_law_r31 _ (List.mem_of_getElem? (i := 20) rfl)
theorem mw741 : Cond.methodLink RX7 37 yX7_mayMarry ∈ BW := bw_wsL_law_r31 _ (List.mem_of_getElem? (i := 21) rfl)
theorem mw742 : Cond.static yX7_mayMarry ∈ BW := bw_wsL_law_r31 _ (List.mem_of_getElem? (i := 22) rfl)
theorem mw743 : Cond.code yX7_mayMarry cX7_mayMarry 3 (some .boolean) ∈ BW := bw_wsL_law_r31 _ (List.mem_of_getElem? (i := 23) rfl)
theorem mw744 : Cond.fieldLink RX7 41 "OneJohn$Land" "now" "LOneJohn$Now;" ∈ BW := bw_wsL_law_r32 _ (List.mem_of_getElem? (i := 0) rfl)
theorem mw745 : Cond.fieldLink RX7 45 "OneJohn$Now" "names" "[I" ∈ BW := bw_wsL_law_r32 _ (List.mem_of_getElem? (i := 1) rfl)
theorem mw746 : Cond.methodLink RX7 50 yX1_quarrel ∈ BW := bw_wsL_law_r32 _ (List.mem_of_getElem? (i := 2) rfl)
theorem mw747 : Cond.methodLink RL 107 yX9_married ∈ BW := bw_wsL_law_r32 _ (List.mem_of_getElem? (i := 3) rfl)
theorem mw748 : Cond.instanceMethod yX9_married ∈ BW := bw_wsL_law_r32 _ (List.mem_of_getElem? (i := 4) rfl)
theorem mw749 : Cond.selects RX9 yX9_married yX9_married ∈ BW := bw_wsL_law_r32 _ (List.mem_of_getElem? (i := 5) rfl)
theorem mw750 : Cond.code yX9_married cX9_married 8 (some .int) ∈ BW := bw_wsL_law_r32 _ (List.mem_of_getElem? (i := 6) rfl)
theorem mw751 : Cond.methodLink RX9 225 yX9_pairs ∈ BW := bw_wsL_law_r32 _ (List.mem_of_getElem? (i := 7) rfl)
theorem mw752 : Cond.instanceMethod yX9_pairs ∈ BW := bw_wsL_law_r32 _ (List.mem_of_getElem? (i := 8) rfl)
theorem mw753 : Cond.selects RX9 yX9_pairs yX9_pairs ∈ BW := bw_wsL_law_r32 _ (List.mem_of_getElem? (i := 9) rfl)
theorem mw754 : Cond.code yX9_pairs cX9_pairs 6 none ∈ BW := bw_wsL_law_r32 _ (List.mem_of_getElem? (i := 10) rfl)
theorem mw755 : Cond.methodLink RX9 221 yX9_mayMarry ∈ BW := bw_wsL_law_r32 _ (List.mem_of_getElem? (i := 11) rfl)
theorem mw756 : Cond.instanceMethod yX9_mayMarry ∈ BW := bw_wsL_law_r32 _ (List.mem_of_getElem? (i := 12) rfl)
theorem mw757 : Cond.selects RX9 yX9_mayMarry yX9_mayMarry ∈ BW := bw_wsL_law_r32 _ (List.mem_of_getElem? (i := 13) rfl)
theorem mw758 : Cond.code yX9_mayMarry cX9_mayMarry 3 (some .boolean) ∈ BW := bw_wsL_law_r32 _ (List.mem_of_getElem? (i := 14) rfl)
theorem mw759 : Cond.methodLink RL 108 yX8_odds ∈ BW := bw_wsL_law_r32 _ (List.mem_of_getElem? (i := 15) rfl)
theorem mw760 : Cond.instanceMethod yX8_odds ∈ BW := bw_wsL_law_r32 _ (List.mem_of_getElem? (i := 16) rfl)
theorem mw761 : Cond.selects RX8 yX8_odds yX8_odds ∈ BW := bw_wsL_law_r32 _ (List.mem_of_getElem? (i := 17) rfl)
theorem mw762 : Cond.code yX8_odds cX8_odds 8 (some .int) ∈ BW := bw_wsL_law_r32 _ (List.mem_of_getElem? (i := 18) rfl)
theorem mw763 : Cond.fieldLink RX8 252 "OneJohn$Land" "nameCount" "I" ∈ BW := bw_wsL_law_r32 _ (List.mem_of_getElem? (i := 19) rfl)
theorem mw764 : Cond.methodLink RX8 249 yX8_christenings ∈ BW := bw_wsL_law_r32 _ (List.mem_of_getElem? (i := 20) rfl)
theorem mw765 : Cond.instanceMethod yX8_christenings ∈ BW := bw_wsL_law_r32 _ (List.mem_of_getElem? (i := 21) rfl)
theorem mw766 : Cond.selects RX8 yX8_christenings yX8_christenings ∈ BW := bw_wsL_law_r32 _ (List.mem_of_getElem? (i := 22) rfl)
theorem mw767 : Cond.code yX8_christenings cX8_christenings 5 (some .int) ∈ BW := bw_wsL_law_r32 _ (List.mem_of_getElem? (i := 23) rfl)
theorem mw768 : Cond.methodLink RX8 258 yX8_choices ∈ BW := bw_wsL_law_r33 _ (List.mem_of_getElem? (i := 0) rfl)
theorem mw769 : Cond.static yX8_choices ∈ BW := bw_wsL_law_r33 _ (List.mem_of_getElem? (i := 1) rfl)
theorem mw770 : Cond.code yX8_choices cX8_choices 4 (some .int) ∈ BW := bw_wsL_law_r33 _ (List.mem_of_getElem? (i := 2) rfl)
theorem mw771 : Cond.methodLink RX8 255 yX8_power ∈ BW := bw_wsL_law_r33 _ (List.mem_of_getElem? (i := 3) rfl)
theorem mw772 : Cond.static yX8_power ∈ BW := bw_wsL_law_r33 _ (List.mem_of_getElem? (i := 4) rfl)
theorem mw773 : Cond.code yX8_power cX8_power 4 (some .int) ∈ BW := bw_wsL_law_r33 _ (List.mem_of_getElem? (i := 5) rfl)
theorem mw774 : Cond.methodLink RL 112 yX9_odds ∈ BW := bw_wsL_law_r33 _ (List.mem_of_getElem? (i := 6) rfl)
theorem mw775 : Cond.instanceMethod yX9_odds ∈ BW := bw_wsL_law_r33 _ (List.mem_of_getElem? (i := 7) rfl)
theorem mw776 : Cond.selects RX9 yX9_odds yX9_odds ∈ BW := bw_wsL_law_r33 _ (List.mem_of_getElem? (i := 8) rfl)
theorem mw777 : Cond.code yX9_odds cX9_odds 7 (some .int) ∈ BW := bw_wsL_law_r33 _ (List.mem_of_getElem? (i := 9) rfl)
theorem mw778 : Cond.methodLink RX9 228 yX9_power ∈ BW := bw_wsL_law_r33 _ (List.mem_of_getElem? (i := 10) rfl)
theorem mw779 : Cond.static yX9_power ∈ BW := bw_wsL_law_r33 _ (List.mem_of_getElem? (i := 11) rfl)
theorem mw780 : Cond.code yX9_power cX9_power 4 (some .int) ∈ BW := bw_wsL_law_r33 _ (List.mem_of_getElem? (i := 12) rfl)
theorem mw781 : Cond.methodLink RL 113 yX8_rate ∈ BW := bw_wsL_law_r33 _ (List.mem_of_getElem? (i := 13) rfl)
theorem mw782 : Cond.instanceMethod yX8_rate ∈ BW := bw_wsL_law_r33 _ (List.mem_of_getElem? (i := 14) rfl)
theorem mw783 : Cond.selects RX8 yX8_rate yX8_rate ∈ BW := bw_wsL_law_r33 _ (List.mem_of_getElem? (i := 15) rfl)
theorem mw784 : Cond.code yX8_rate cX8_rate 3 (some .int) ∈ BW := bw_wsL_law_r33 _ (List.mem_of_getElem? (i := 16) rfl)
theorem mw785 : Cond.constant RX8 261 (-1000000) ∈ BW := bw_wsL_law_r33 _ (List.mem_of_getElem? (i := 17) rfl)
theorem mw786 : Cond.methodLink RX8 262 yX8_rateAs ∈ BW := bw_wsL_law_r33 _ (List.mem_of_getElem? (i := 18) rfl)
theorem mw787 : Cond.instanceMethod yX8_rateAs ∈ BW := bw_wsL_law_r33 _ (List.mem_of_getElem? (i := 19) rfl)
theorem mw788 : Cond.selects RX8 yX8_rateAs yX8_rateAs ∈ BW := bw_wsL_law_r33 _ (List.mem_of_getElem? (i := 20) rfl)
theorem mw789 : Cond.code yX8_rateAs cX8_rateAs 3 (some .int) ∈ BW := bw_wsL_law_r33 _ (List.mem_of_getElem? (i := 21) rfl)
theorem mw790 : Cond.fieldLink RX8 265 "OneJohn" "MARKS" "[I" ∈ BW := bw_wsL_law_r33 _ (List.mem_of_getElem? (i := 22) rfl)
theorem mw791 : Cond.methodLink RL 116 yX9_rate ∈ BW := bw_wsL_law_r33 _ (List.mem_of_getElem? (i := 23) rfl)
theorem mw792 : Cond.instanceMethod yX9_rate ∈ BW := bw_wsL_law_r34 _ (List.mem_of_getElem? (i := 0) rfl)
theorem mw793 : Cond.selects RX9 yX9_rate yX9_rate ∈ BW := bw_wsL_law_r34 _ (List.mem_of_getElem? (i := 1) rfl)
theorem mw794 : Cond.code yX9_rate cX9_rate 6 (some .int) ∈ BW := bw_wsL_law_r34 _ (List.mem_of_getElem? (i := 2) rfl)
theorem mw795 : Cond.constant RX9 231 (-1000000) ∈ BW := bw_wsL_law_r34 _ (List.mem_of_getElem? (i := 3) rfl)
theorem mw796 : Cond.fieldLink RX9 232 "OneJohnModel" "trace" "J" ∈ BW := bw_wsL_law_r34 _ (List.mem_of_getElem? (i := 4) rfl)
theorem mw797 : Cond.constantLong RX9 236 (11) ∈ BW := bw_wsL_law_r34 _ (List.mem_of_getElem? (i := 5) rfl)
theorem mw798 : Cond.constantLong RX9 238 (101) ∈ BW := bw_wsL_law_r34 _ (List.mem_of_getElem? (i := 6) rfl)
theorem mw799 : Cond.constantLong RX9 240 (1011) ∈ BW := bw_wsL_law_r34 _ (List.mem_of_getElem? (i := 7) rfl)
theorem mw800 : Cond.constantLong RX9 242 (10101) ∈ BW := bw_wsL_law_r34 _ (List.mem_of_getElem? (i := 8) rfl)
theorem mw801 : Cond.constantLong RX9 244 (100001) ∈ BW := bw_wsL_law_r34 _ (List.mem_of_getElem? (i := 9) rfl)
theorem mw802 : Cond.methodLink RL 117 yX8_keep ∈ BW := bw_wsL_law_r34 _ (List.mem_of_getElem? (i := 10) rfl)
theorem mw803 : Cond.instanceMethod yX8_keep ∈ BW := bw_wsL_law_r34 _ (List.mem_of_getElem? (i := 11) rfl)
theorem mw804 : Cond.selects RX8 yX8_keep yX8_keep ∈ BW := bw_wsL_law_r34 _ (List.mem_of_getElem? (i := 12) rfl)
theorem mw805 : Cond.code yX8_keep cX8_keep 2 (some .int) ∈ BW := bw_wsL_law_r34 _ (List.mem_of_getElem? (i := 13) rfl)
theorem mw806 : Cond.methodLink RX8 268 yX2_take ∈ BW := bw_wsL_law_r34 _ (List.mem_of_getElem? (i := 14) rfl)
theorem mw807 : Cond.methodLink RL 120 yX9_keep ∈ BW := bw_wsL_law_r34 _ (List.mem_of_getElem? (i := 15) rfl)
theorem mw808 : Cond.instanceMethod yX9_keep ∈ BW := bw_wsL_law_r34 _ (List.mem_of_getElem? (i := 16) rfl)
theorem mw809 : Cond.selects RX9 yX9_keep yX9_keep ∈ BW := bw_wsL_law_r34 _ (List.mem_of_getElem? (i := 17) rfl)
theorem mw810 : Cond.code yX9_keep cX9_keep 3 (some .int) ∈ BW := bw_wsL_law_r34 _ (List.mem_of_getElem? (i := 18) rfl)
theorem mw811 : Cond.methodLink RL 121 yX8_back ∈ BW := bw_wsL_law_r34 _ (List.mem_of_getElem? (i := 19) rfl)
theorem mw812 : Cond.instanceMethod yX8_back ∈ BW := bw_wsL_law_r34 _ (List.mem_of_getElem? (i := 20) rfl)
theorem mw813 : Cond.selects RX8 yX8_back yX8_back ∈ BW := bw_wsL_law_r34 _ (List.mem_of_getElem? (i := 21) rfl)
theorem mw814 : Cond.code yX8_back cX8_back 2 (some .int) ∈ BW := bw_wsL_law_r34 _ (List.mem_of_getElem? (i := 22) rfl)
theorem mw815 : Cond.methodLink RL 124 yX9_back ∈ BW := bw_wsL_law_r34 _ (List.mem_of_getElem? (i := 23) rfl)
theorem mw816 : Cond.instanceMethod yX9_back ∈ BW := bw_wsL_law_r35 _ (List.mem_of_getElem? (i := 0) rfl)
theorem mw817 : Cond.selects RX9 yX9_back yX9_back ∈ BW := bw_wsL_law_r35 _ (List.mem_of_getElem? (i := 1) rfl)
theorem mw818 : Cond.code yX9_back cX9_back 3 (some .int) ∈ BW := bw_wsL_law_r35 _ (List.mem_of_getElem? (i := 2) rfl)
theorem mw819 : Cond.methodLink RL 125 yX8_count ∈ BW := bw_wsL_law_r35 _ (List.mem_of_getElem? (i := 3) rfl)
theorem mw820 : Cond.instanceMethod yX8_count ∈ BW := bw_wsL_law_r35 _ (List.mem_of_getElem? (i := 4) rfl)
theorem mw821 : Cond.selects RX8 yX8_count yX8_count ∈ BW := bw_wsL_law_r35 _ (List.mem_of_getElem? (i := 5) rfl)
theorem mw822 : Cond.code yX8_count cX8_count 2 (some .int) ∈ BW := bw_wsL_law_r35 _ (List.mem_of_getElem? (i := 6) rfl)
theorem mw823 : Cond.methodLink RL 128 yX9_count ∈ BW := bw_wsL_law_r35 _ (List.mem_of_getElem? (i := 7) rfl)
theorem mw824 : Cond.instanceMethod yX9_count ∈ BW := bw_wsL_law_r35 _ (List.mem_of_getElem? (i := 8) rfl)
theorem mw825 : Cond.selects RX9 yX9_count yX9_count ∈ BW := bw_wsL_law_r35 _ (List.mem_of_getElem? (i := 9) rfl)
theorem mw826 : Cond.code yX9_count cX9_count 2 (some .int) ∈ BW := bw_wsL_law_r35 _ (List.mem_of_getElem? (i := 10) rfl)
theorem mw827 : Cond.methodLink RL 129 yX8_trace ∈ BW := bw_wsL_law_r35 _ (List.mem_of_getElem? (i := 11) rfl)
theorem mw828 : Cond.instanceMethod yX8_trace ∈ BW := bw_wsL_law_r35 _ (List.mem_of_getElem? (i := 12) rfl)
theorem mw829 : Cond.selects RX8 yX8_trace yX8_trace ∈ BW := bw_wsL_law_r35 _ (List.mem_of_getElem? (i := 13) rfl)
theorem mw830 : Cond.code yX8_trace cX8_trace 1 (some .long) ∈ BW := bw_wsL_law_r35 _ (List.mem_of_getElem? (i := 14) rfl)
theorem mw831 : Cond.methodLink RL 133 yX9_trace ∈ BW := bw_wsL_law_r35 _ (List.mem_of_getElem? (i := 15) rfl)
theorem mw832 : Cond.instanceMethod yX9_trace ∈ BW := bw_wsL_law_r35 _ (List.mem_of_getElem? (i := 16) rfl)
theorem mw833 : Cond.selects RX9 yX9_trace yX9_trace ∈ BW := bw_wsL_law_r35 _ (List.mem_of_getElem? (i := 17) rfl)
theorem mw834 : Cond.code yX9_trace cX9_trace 1 (some .long) ∈ BW := bw_wsL_law_r35 _ (List.mem_of_getElem? (i := 18) rfl)
def nestL : List (String × Nat × MethodName × String) := [(RX8, 9, yX6_init, RX8), (RX8, 18, yX4_init, RX8), (RX4, 11, yX1_init, RX8), (RX1, 23, yX2_init, RX8), (RX8, 25, yX1_init, RX8), (RX3, 24, yX2_init, RX8), (RX8, 39, yX0_init, RX8), (RX8, 49, yX5_init, RX8), (RX8, 56, yX7_init, RX8), (RX8, 75, yX2_init, RX8), (RX4, 89, yX8_within, RX8), (RX1, 66, yX8_within, RX8), (RX1, 70, yX8_bit, RX8), (RX0, 22, yX8_bit, RX8)]
abbrev vwCl : List vw_C := [(RX0, TX0, 3), (RX1, TX1, 6), (RX2, TX2, 7), (RX3, TX3, 3), (RX4, TX4, 6), (RX5, TX5, 3), (RX6, TX6, 2), (RX7, TX7, 3), (RX8, TX8, 11), (RX9, TX9, 29)]
end
section
theorem in_r {big : List Cond} (ws : List Cond) (ps : List Nat) (hp : ws = ps.filterMap (fun i => big[i]?)) : ∀ w ∈ ws, w ∈ big := by
  intro w hw
  rw [hp] at hw
  obtain ⟨i, -, hi⟩ := List.mem_filterMap.mp hw
  first | exact List.mem_of_getElem? hi | exact List.getElem?_mem hi
theorem in_app {big a b : List Cond} (ha : ∀ w ∈ a, w ∈ big) (hb : ∀ w ∈ b, w ∈ big) : ∀ w ∈ a ++ b, w ∈ big := fun w h => (List.mem_append.mp h).elim (ha w) (hb w)
set_option maxRecDepth 100000 in
theorem in_wsL_law_r1 : ∀ w ∈ wsL_law_r1, w ∈ lw_tbl := in_r _ [64, 65, 51, 690, 691, 60, 66, 67, 68, 69, 70, 71, 72, 73, 52, 277, 90, 91, 53, 278, 200, 97, 54, 279] (by decide +kernel)
set_option maxRecDepth 100000 in
theorem in_wsL_law_r2 : ∀ w ∈ wsL_law_r2, w ∈ lw_tbl := in_r _ [202, 203, 56, 280, 222, 223, 57, 281, 282, 239, 240, 58, 283, 257, 258, 59, 284, 275, 285, 311, 286, 287, 103, 55] (by decide +kernel)
set_option maxRecDepth 100000 in
theorem in_wsL_law_r3 : ∀ w ∈ wsL_law_r3, w ∈ lw_tbl := in_r _ [75, 76, 77, 89, 78, 81, 93, 94, 95, 96, 180, 182, 183, 184, 185, 186, 99, 100, 101, 147, 149, 152, 102, 153] (by decide +kernel)
set_option maxRecDepth 100000 in
theorem in_wsL_law_r4 : ∀ w ∈ wsL_law_r4, w ∈ lw_tbl := in_r _ [158, 162, 105, 106, 107, 108, 113, 116, 119, 122, 126, 129, 204, 205, 206, 207, 208, 211, 212, 213, 225, 226, 227, 228] (by decide +kernel)
set_option maxRecDepth 100000 in
theorem in_wsL_law_r5 : ∀ w ∈ wsL_law_r5, w ∈ lw_tbl := in_r _ [229, 230, 242, 243, 244, 245, 246, 248, 260, 261, 262, 263, 264, 266, 692, 693, 694, 695, 698, 705, 706, 707, 708, 709] (by decide +kernel)
set_option maxRecDepth 100000 in
theorem in_wsL_law_r6 : ∀ w ∈ wsL_law_r6, w ∈ lw_tbl := in_r _ [711, 712, 713, 714, 715, 717, 718, 720, 721, 723, 724, 312, 313, 314, 315, 82, 79, 316, 317, 318, 784, 785, 786, 787] (by decide +kernel)
set_option maxRecDepth 100000 in
theorem in_wsL_law_r7 : ∀ w ∈ wsL_law_r7, w ∈ lw_tbl := in_r _ [696, 699, 788, 789, 790, 319, 320, 321, 322, 791, 792, 793, 794, 323, 324, 325, 326, 181, 214, 231, 327, 328, 329, 330] (by decide +kernel)
set_option maxRecDepth 100000 in
theorem in_wsL_law_r8 : ∀ w ∈ wsL_law_r8, w ∈ lw_tbl := in_r _ [331, 332, 333, 334, 120, 123, 127, 130, 335, 337, 0, 338, 83, 80, 339, 340, 341, 342, 344, 1, 345, 346, 348, 2] (by decide +kernel)
set_option maxRecDepth 100000 in
theorem in_wsL_law_r9 : ∀ w ∈ wsL_law_r9, w ∈ lw_tbl := in_r _ [349, 164, 350, 352, 3, 353, 159, 354, 356, 4, 357, 359, 361, 5, 362, 363, 365, 6, 366, 367, 368, 369, 370, 110] (by decide +kernel)
set_option maxRecDepth 100000 in
theorem in_wsL_law_r10 : ∀ w ∈ wsL_law_r10, w ∈ lw_tbl := in_r _ [114, 117, 371, 373, 7, 374, 151, 375, 377, 8, 378, 157, 124, 379, 380, 381, 382, 383, 385, 384, 61, 386, 387, 388] (by decide +kernel)
set_option maxRecDepth 100000 in
theorem in_wsL_law_r11 : ∀ w ∈ wsL_law_r11, w ∈ lw_tbl := in_r _ [389, 390, 795, 796, 797, 798, 704, 700, 710, 701, 799, 801, 17, 802, 702, 703, 803, 805, 18, 806, 807, 809, 19, 810] (by decide +kernel)
set_option maxRecDepth 100000 in
theorem in_wsL_law_r12 : ∀ w ∈ wsL_law_r12, w ∈ lw_tbl := in_r _ [811, 813, 20, 814, 815, 817, 21, 818, 819, 821, 22, 822, 823, 825, 23, 826, 827, 829, 24, 830, 719, 722, 716, 391] (by decide +kernel)
set_option maxRecDepth 100000 in
theorem in_wsL_law_r13 : ∀ w ∈ wsL_law_r13, w ∈ lw_tbl := in_r _ [392, 393, 394, 156, 112, 115, 148, 121, 118, 395, 396, 397, 398, 400, 401, 402, 403, 404, 405, 406, 407, 408, 409, 410] (by decide +kernel)
set_option maxRecDepth 100000 in
theorem in_wsL_law_r14 : ∀ w ∈ wsL_law_r14, w ∈ lw_tbl := in_r _ [411, 412, 413, 414, 415, 416, 417, 418, 419, 420, 421, 422, 423, 424, 425, 426, 433, 434, 63, 435, 427, 428, 62, 429] (by decide +kernel)
set_option maxRecDepth 100000 in
theorem in_wsL_law_r15 : ∀ w ∈ wsL_law_r15, w ∈ lw_tbl := in_r _ [430, 431, 432, 436, 437, 438, 439, 831, 832, 833, 834, 835, 837, 25, 838, 839, 841, 26, 842, 843, 844, 845, 846, 848] (by decide +kernel)
set_option maxRecDepth 100000 in
theorem in_wsL_law_r16 : ∀ w ∈ wsL_law_r16, w ∈ lw_tbl := in_r _ [27, 849, 850, 852, 28, 853, 854, 856, 29, 857, 858, 860, 30, 861, 862, 863, 864, 441, 442, 443, 444, 150, 865, 866] (by decide +kernel)
set_option maxRecDepth 100000 in
theorem in_wsL_law_r17 : ∀ w ∈ wsL_law_r17, w ∈ lw_tbl := in_r _ [867, 868, 445, 446, 447, 448, 455, 449, 450, 451, 452, 453, 454, 456, 457, 458, 459, 460, 461, 462, 869, 870, 871, 872] (by decide +kernel)
set_option maxRecDepth 100000 in
theorem in_wsL_law_r18 : ∀ w ∈ wsL_law_r18, w ∈ lw_tbl := in_r _ [873, 875, 31, 876, 877, 878, 879, 880, 881, 882, 463, 464, 465, 466, 125, 467, 468, 469, 470, 471, 473, 9, 474, 475] (by decide +kernel)
set_option maxRecDepth 100000 in
theorem in_wsL_law_r19 : ∀ w ∈ wsL_law_r19, w ∈ lw_tbl := in_r _ [477, 10, 478, 479, 480, 481, 482, 483, 484, 485, 486, 487, 488, 489, 490, 491, 492, 493, 883, 884, 885, 886, 887, 889] (by decide +kernel)
set_option maxRecDepth 100000 in
theorem in_wsL_law_r20 : ∀ w ∈ wsL_law_r20, w ∈ lw_tbl := in_r _ [32, 890, 891, 893, 33, 894, 895, 897, 34, 898, 899, 901, 35, 902, 903, 905, 36, 906, 494, 495, 496, 497, 131, 128] (by decide +kernel)
set_option maxRecDepth 100000 in
theorem in_wsL_law_r21 : ∀ w ∈ wsL_law_r21, w ∈ lw_tbl := in_r _ [498, 499, 500, 501, 502, 503, 504, 505, 506, 507, 508, 509, 510, 511, 512, 513, 514, 515, 516, 517, 518, 907, 908, 909] (by decide +kernel)
set_option maxRecDepth 100000 in
theorem in_wsL_law_r22 : ∀ w ∈ wsL_law_r22, w ∈ lw_tbl := in_r _ [910, 911, 913, 37, 914, 915, 917, 38, 918, 919, 921, 39, 922, 923, 925, 40, 926, 927, 929, 41, 930, 931, 933, 42] (by decide +kernel)
set_option maxRecDepth 100000 in
theorem in_wsL_law_r23 : ∀ w ∈ wsL_law_r23, w ∈ lw_tbl := in_r _ [934, 935, 937, 43, 938, 519, 520, 521, 522, 523, 524, 525, 526, 528, 529, 530, 527, 939, 940, 941, 942, 943, 945, 44] (by decide +kernel)
set_option maxRecDepth 100000 in
theorem in_wsL_law_r24 : ∀ w ∈ wsL_law_r24, w ∈ lw_tbl := in_r _ [946, 531, 532, 533, 534, 947, 948, 949, 950, 535, 536, 537, 538, 539, 951, 952, 953, 954, 540, 541, 542, 543, 955, 956] (by decide +kernel)
set_option maxRecDepth 100000 in
theorem in_wsL_law_r25 : ∀ w ∈ wsL_law_r25, w ∈ lw_tbl := in_r _ [957, 958, 544, 545, 546, 547, 959, 960, 961, 962, 548, 549, 550, 551, 552, 553, 554, 555, 556, 557, 963, 964, 965, 966] (by decide +kernel)
set_option maxRecDepth 100000 in
theorem in_wsL_law_r26 : ∀ w ∈ wsL_law_r26, w ∈ lw_tbl := in_r _ [967, 558, 559, 560, 561, 562, 563, 564, 565, 968, 969, 970, 971, 566, 567, 568, 569, 249, 247, 570, 571, 572, 573, 574] (by decide +kernel)
set_option maxRecDepth 100000 in
theorem in_wsL_law_r27 : ∀ w ∈ wsL_law_r27, w ∈ lw_tbl := in_r _ [576, 11, 577, 165, 578, 160, 155, 111, 579, 581, 12, 582, 583, 584, 585, 586, 587, 972, 973, 974, 975, 976, 977, 979] (by decide +kernel)
set_option maxRecDepth 100000 in
theorem in_wsL_law_r28 : ∀ w ∈ wsL_law_r28, w ∈ lw_tbl := in_r _ [45, 980, 588, 589, 590, 591, 592, 981, 982, 983, 984, 593, 594, 595, 596, 597, 598, 599, 600, 985, 986, 987, 988, 601] (by decide +kernel)
set_option maxRecDepth 100000 in
theorem in_wsL_law_r29 : ∀ w ∈ wsL_law_r29, w ∈ lw_tbl := in_r _ [602, 603, 604, 989, 990, 991, 992, 605, 606, 607, 608, 993, 994, 995, 996, 609, 610, 611, 612, 166, 613, 614, 615, 616] (by decide +kernel)
set_option maxRecDepth 100000 in
theorem in_wsL_law_r30 : ∀ w ∈ wsL_law_r30, w ∈ lw_tbl := in_r _ [617, 997, 998, 999, 1000, 1001, 1003, 46, 1004, 619, 620, 621, 622, 623, 625, 13, 626, 627, 628, 629, 630, 1005, 1006, 1007] (by decide +kernel)
set_option maxRecDepth 100000 in
theorem in_wsL_law_r31 : ∀ w ∈ wsL_law_r31, w ∈ lw_tbl := in_r _ [1008, 1009, 1011, 47, 1012, 631, 632, 633, 634, 267, 265, 635, 636, 637, 638, 639, 641, 14, 642, 163, 643, 644, 645, 646] (by decide +kernel)
set_option maxRecDepth 100000 in
theorem in_wsL_law_r32 : ∀ w ∈ wsL_law_r32, w ∈ lw_tbl := in_r _ [154, 109, 647, 1013, 1014, 1015, 1016, 1017, 1019, 48, 1020, 1021, 1023, 49, 1024, 648, 649, 650, 651, 161, 652, 654, 15, 655] (by decide +kernel)
set_option maxRecDepth 100000 in
theorem in_wsL_law_r33 : ∀ w ∈ wsL_law_r33, w ∈ lw_tbl := in_r _ [656, 657, 658, 659, 660, 661, 1025, 1026, 1027, 1028, 1029, 1030, 1031, 662, 663, 664, 665, 666, 667, 669, 16, 670, 671, 1032] (by decide +kernel)
set_option maxRecDepth 100000 in
theorem in_wsL_law_r34 : ∀ w ∈ wsL_law_r34, w ∈ lw_tbl := in_r _ [1033, 1034, 1035, 1036, 697, 1037, 1038, 1039, 1040, 1041, 673, 674, 675, 676, 677, 1042, 1043, 1044, 1045, 678, 679, 680, 681, 1046] (by decide +kernel)
set_option maxRecDepth 100000 in
theorem in_wsL_law_r35 : ∀ w ∈ wsL_law_r35, w ∈ lw_tbl := in_r _ [1047, 1048, 1049, 682, 683, 684, 685, 1050, 1051, 1052, 1053, 686, 687, 688, 689, 1054, 1055, 1056, 1057] (by decide +kernel)
set_option maxRecDepth 100000 in
theorem in_wsX80 : ∀ w ∈ wsX80, w ∈ lw_tbl := in_r _ [288, 290, 292, 294, 296, 298, 300, 302, 304, 306, 308] (by decide +kernel)
set_option maxRecDepth 100000 in
theorem in_wsX90 : ∀ w ∈ wsX90, w ∈ lw_tbl := in_r _ [725, 727, 729, 731, 733, 735, 737, 739, 741, 743, 745, 747, 749, 751, 753, 755, 757, 759, 761, 763, 765, 767, 769, 771, 773, 775, 777, 779, 781] (by decide +kernel)
set_option maxRecDepth 100000 in
theorem in_wsX60 : ∀ w ∈ wsX60, w ∈ lw_tbl := in_r _ [84, 86] (by decide +kernel)
set_option maxRecDepth 100000 in
theorem in_wsX40 : ∀ w ∈ wsX40, w ∈ lw_tbl := in_r _ [187, 189, 191, 193, 195, 197] (by decide +kernel)
set_option maxRecDepth 100000 in
theorem in_wsX10 : ∀ w ∈ wsX10, w ∈ lw_tbl := in_r _ [167, 169, 171, 173, 175, 177] (by decide +kernel)
set_option maxRecDepth 100000 in
theorem in_wsX30 : ∀ w ∈ wsX30, w ∈ lw_tbl := in_r _ [215, 217, 219] (by decide +kernel)
set_option maxRecDepth 100000 in
theorem in_wsX00 : ∀ w ∈ wsX00, w ∈ lw_tbl := in_r _ [232, 234, 236] (by decide +kernel)
set_option maxRecDepth 100000 in
theorem in_wsX50 : ∀ w ∈ wsX50, w ∈ lw_tbl := in_r _ [250, 252, 254] (by decide +kernel)
set_option maxRecDepth 100000 in
theorem in_wsX70 : ∀ w ∈ wsX70, w ∈ lw_tbl := in_r _ [268, 270, 272] (by decide +kernel)
set_option maxRecDepth 100000 in
theorem in_wsX20 : ∀ w ∈ wsX20, w ∈ lw_tbl := in_r _ [132, 134, 136, 138, 140, 142, 144] (by decide +kernel)
theorem BW_in : ∀ w ∈ BW, w ∈ lw_tbl := (in_app (in_app (in_app (in_app (in_app (in_app (in_app (in_app (in_app (in_app (in_app (in_app in_wsL_law_r1 (in_app in_wsL_law_r2 (in_app in_wsL_law_r3 (in_app in_wsL_law_r4 (in_app in_wsL_law_r5 (in_app in_wsL_law_r6 (in_app in_wsL_law_r7 (in_app in_wsL_law_r8 (in_app in_wsL_law_r9 (in_app in_wsL_law_r10 (in_app in_wsL_law_r11 (in_app in_wsL_law_r12 (in_app in_wsL_law_r13 (in_app in_wsL_law_r14 (in_app in_wsL_law_r15 (in_app in_wsL_law_r16 (in_app in_wsL_law_r17 (in_app in_wsL_law_r18 (in_app in_wsL_law_r19 (in_app in_wsL_law_r20 (in_app in_wsL_law_r21 (in_app in_wsL_law_r22 (in_app in_wsL_law_r23 (in_app in_wsL_law_r24 (in_app in_wsL_law_r25 (in_app in_wsL_law_r26 (in_app in_wsL_law_r27 (in_app in_wsL_law_r28 (in_app in_wsL_law_r29 (in_app in_wsL_law_r30 (in_app in_wsL_law_r31 (in_app in_wsL_law_r32 (in_app in_wsL_law_r33 (in_app in_wsL_law_r34 in_wsL_law_r35)))))))))))))))))))))))))))))))))) in_wsX80) in_wsX90) in_wsX60) in_wsX40) in_wsX10) in_wsX30) in_wsX00) in_wsX50) in_wsX70) in_wsX20) (fun _ h => absurd h List.not_mem_nil))
set_option maxRecDepth 100000 in
theorem nest_in : ∀ q ∈ nestL, Cond.methodLinkNest q.1 q.2.1 q.2.2.1 q.2.2.2 ∈ lw_tbl := by
  have h := in_r (big := lw_tbl) (nestL.map (fun q => Cond.methodLinkNest q.1 q.2.1 q.2.2.1 q.2.2.2)) [74, 92, 98, 104, 201, 210, 224, 241, 259, 276, 358, 399, 440, 618] (by decide +kernel)
  exact fun q hq => h _ (List.mem_map_of_mem hq)
end
section
theorem dX0_init_0 : decode cX0_init 0 = .ok (.aload_n 0, 1) := by decide +kernel
theorem dX0_init_1 : decode cX0_init 1 = .ok (.invokespecial 3, 3) := by decide +kernel
theorem dX0_init_4 : decode cX0_init 4 = .ok (.aload_n 0, 1) := by decide +kernel
theorem dX0_init_5 : decode cX0_init 5 = .ok (.bipush 6, 2) := by decide +kernel
theorem dX0_init_7 : decode cX0_init 7 = .ok (.newarray .int, 2) := by decide +kernel
theorem dX0_init_9 : decode cX0_init 9 = .ok (.putfield 9, 3) := by decide +kernel
theorem dX0_init_12 : decode cX0_init 12 = .ok (.aload_n 0, 1) := by decide +kernel
theorem dX0_init_13 : decode cX0_init 13 = .ok (.bipush 6, 2) := by decide +kernel
theorem dX0_init_15 : decode cX0_init 15 = .ok (.newarray .int, 2) := by decide +kernel
theorem dX0_init_17 : decode cX0_init 17 = .ok (.putfield 15, 3) := by decide +kernel
theorem dX0_init_20 : decode cX0_init 20 = .ok (.aload_n 0, 1) := by decide +kernel
theorem dX0_init_21 : decode cX0_init 21 = .ok (.iconst 0, 1) := by decide +kernel
theorem dX0_init_22 : decode cX0_init 22 = .ok (.putfield 18, 3) := by decide +kernel
theorem dX0_init_25 : decode cX0_init 25 = .ok (.return_, 1) := by decide +kernel
theorem dX0_add_0 : decode cX0_add 0 = .ok (.aload_n 0, 1) := by decide +kernel
theorem dX0_add_1 : decode cX0_add 1 = .ok (.getfield 18, 3) := by decide +kernel
theorem dX0_add_4 : decode cX0_add 4 = .ok (.bipush 6, 2) := by decide +kernel
theorem dX0_add_6 : decode cX0_add 6 = .ok (.if_icmp .lt 6, 3) := by decide +kernel
theorem dX0_add_9 : decode cX0_add 9 = .ok (.bipush (-3), 2) := by decide +kernel
theorem dX0_add_11 : decode cX0_add 11 = .ok (.ireturn, 1) := by decide +kernel
theorem dX0_add_12 : decode cX0_add 12 = .ok (.aload_n 0, 1) := by decide +kernel
theorem dX0_add_13 : decode cX0_add 13 = .ok (.getfield 9, 3) := by decide +kernel
theorem dX0_add_16 : decode cX0_add 16 = .ok (.aload_n 0, 1) := by decide +kernel
theorem dX0_add_17 : decode cX0_add 17 = .ok (.getfield 18, 3) := by decide +kernel
theorem dX0_add_20 : decode cX0_add 20 = .ok (.iload_n 1, 1) := by decide +kernel
theorem dX0_add_21 : decode cX0_add 21 = .ok (.iastore, 1) := by decide +kernel
theorem dX0_add_22 : decode cX0_add 22 = .ok (.aload_n 0, 1) := by decide +kernel
theorem dX0_add_23 : decode cX0_add 23 = .ok (.getfield 15, 3) := by decide +kernel
theorem dX0_add_26 : decode cX0_add 26 = .ok (.aload_n 0, 1) := by decide +kernel
theorem dX0_add_27 : decode cX0_add 27 = .ok (.getfield 18, 3) := by decide +kernel
theorem dX0_add_30 : decode cX0_add 30 = .ok (.iload_n 2, 1) := by decide +kernel
theorem dX0_add_31 : decode cX0_add 31 = .ok (.iastore, 1) := by decide +kernel
theorem dX0_add_32 : decode cX0_add 32 = .ok (.aload_n 0, 1) := by decide +kernel
theorem dX0_add_33 : decode cX0_add 33 = .ok (.dup, 1) := by decide +kernel
theorem dX0_add_34 : decode cX0_add 34 = .ok (.getfield 18, 3) := by decide +kernel
theorem dX0_add_37 : decode cX0_add 37 = .ok (.iconst 1, 1) := by decide +kernel
theorem dX0_add_38 : decode cX0_add 38 = .ok (.iadd, 1) := by decide +kernel
theorem dX0_add_39 : decode cX0_add 39 = .ok (.putfield 18, 3) := by decide +kernel
theorem dX0_add_42 : decode cX0_add 42 = .ok (.aload_n 0, 1) := by decide +kernel
theorem dX0_add_43 : decode cX0_add 43 = .ok (.getfield 18, 3) := by decide +kernel
theorem dX0_add_46 : decode cX0_add 46 = .ok (.ireturn, 1) := by decide +kernel
theorem dX0_agree_0 : decode cX0_agree 0 = .ok (.iconst 0, 1) := by decide +kernel
theorem dX0_agree_1 : decode cX0_agree 1 = .ok (.istore_n 2, 1) := by decide +kernel
theorem dX0_agree_2 : decode cX0_agree 2 = .ok (.iload_n 2, 1) := by decide +kernel
theorem dX0_agree_3 : decode cX0_agree 3 = .ok (.aload_n 0, 1) := by decide +kernel
theorem dX0_agree_4 : decode cX0_agree 4 = .ok (.getfield 18, 3) := by decide +kernel
theorem dX0_agree_7 : decode cX0_agree 7 = .ok (.if_icmp .ge 30, 3) := by decide +kernel
theorem dX0_agree_10 : decode cX0_agree 10 = .ok (.iload_n 1, 1) := by decide +kernel
theorem dX0_agree_11 : decode cX0_agree 11 = .ok (.aload_n 0, 1) := by decide +kernel
theorem dX0_agree_12 : decode cX0_agree 12 = .ok (.getfield 9, 3) := by decide +kernel
theorem dX0_agree_15 : decode cX0_agree 15 = .ok (.iload_n 2, 1) := by decide +kernel
theorem dX0_agree_16 : decode cX0_agree 16 = .ok (.iaload, 1) := by decide +kernel
theorem dX0_agree_17 : decode cX0_agree 17 = .ok (.invokestatic 22, 3) := by decide +kernel
theorem dX0_agree_20 : decode cX0_agree 20 = .ok (.aload_n 0, 1) := by decide +kernel
theorem dX0_agree_21 : decode cX0_agree 21 = .ok (.getfield 15, 3) := by decide +kernel
theorem dX0_agree_24 : decode cX0_agree 24 = .ok (.iload_n 2, 1) := by decide +kernel
theorem dX0_agree_25 : decode cX0_agree 25 = .ok (.iaload, 1) := by decide +kernel
theorem dX0_agree_26 : decode cX0_agree 26 = .ok (.if_icmp .eq 5, 3) := by decide +kernel
theorem dX0_agree_29 : decode cX0_agree 29 = .ok (.iconst 0, 1) := by decide +kernel
theorem dX0_agree_30 : decode cX0_agree 30 = .ok (.ireturn, 1) := by decide +kernel
theorem dX0_agree_31 : decode cX0_agree 31 = .ok (.iinc 2 1, 3) := by decide +kernel
theorem dX0_agree_34 : decode cX0_agree 34 = .ok (.goto (-32), 3) := by decide +kernel
theorem dX0_agree_37 : decode cX0_agree 37 = .ok (.iconst 1, 1) := by decide +kernel
theorem dX0_agree_38 : decode cX0_agree 38 = .ok (.ireturn, 1) := by decide +kernel
theorem dX1_init_0 : decode cX1_init 0 = .ok (.aload_n 0, 1) := by decide +kernel
theorem dX1_init_1 : decode cX1_init 1 = .ok (.invokespecial 3, 3) := by decide +kernel
theorem dX1_init_4 : decode cX1_init 4 = .ok (.aload_n 0, 1) := by decide +kernel
theorem dX1_init_5 : decode cX1_init 5 = .ok (.bipush 7, 2) := by decide +kernel
theorem dX1_init_7 : decode cX1_init 7 = .ok (.newarray .int, 2) := by decide +kernel
theorem dX1_init_9 : decode cX1_init 9 = .ok (.putfield 9, 3) := by decide +kernel
theorem dX1_init_12 : decode cX1_init 12 = .ok (.aload_n 0, 1) := by decide +kernel
theorem dX1_init_13 : decode cX1_init 13 = .ok (.bipush 7, 2) := by decide +kernel
theorem dX1_init_15 : decode cX1_init 15 = .ok (.newarray .int, 2) := by decide +kernel
theorem dX1_init_17 : decode cX1_init 17 = .ok (.putfield 15, 3) := by decide +kernel
theorem dX1_init_20 : decode cX1_init 20 = .ok (.aload_n 0, 1) := by decide +kernel
theorem dX1_init_21 : decode cX1_init 21 = .ok (.bipush 7, 2) := by decide +kernel
theorem dX1_init_23 : decode cX1_init 23 = .ok (.newarray .int, 2) := by decide +kernel
theorem dX1_init_25 : decode cX1_init 25 = .ok (.putfield 18, 3) := by decide +kernel
theorem dX1_init_28 : decode cX1_init 28 = .ok (.aload_n 0, 1) := by decide +kernel
theorem dX1_init_29 : decode cX1_init 29 = .ok (.new 21, 3) := by decide +kernel
theorem dX1_init_32 : decode cX1_init 32 = .ok (.dup, 1) := by decide +kernel
theorem dX1_init_33 : decode cX1_init 33 = .ok (.invokespecial 23, 3) := by decide +kernel
theorem dX1_init_36 : decode cX1_init 36 = .ok (.putfield 24, 3) := by decide +kernel
theorem dX1_init_39 : decode cX1_init 39 = .ok (.aload_n 0, 1) := by decide +kernel
theorem dX1_init_40 : decode cX1_init 40 = .ok (.iconst 4, 1) := by decide +kernel
theorem dX1_init_41 : decode cX1_init 41 = .ok (.putfield 28, 3) := by decide +kernel
theorem dX1_init_44 : decode cX1_init 44 = .ok (.aload_n 0, 1) := by decide +kernel
theorem dX1_init_45 : decode cX1_init 45 = .ok (.iconst 0, 1) := by decide +kernel
theorem dX1_init_46 : decode cX1_init 46 = .ok (.putfield 32, 3) := by decide +kernel
theorem dX1_init_49 : decode cX1_init 49 = .ok (.return_, 1) := by decide +kernel
theorem dX1_empty_0 : decode cX1_empty 0 = .ok (.aload_n 0, 1) := by decide +kernel
theorem dX1_empty_1 : decode cX1_empty 1 = .ok (.iconst 4, 1) := by decide +kernel
theorem dX1_empty_2 : decode cX1_empty 2 = .ok (.putfield 28, 3) := by decide +kernel
theorem dX1_empty_5 : decode cX1_empty 5 = .ok (.aload_n 0, 1) := by decide +kernel
theorem dX1_empty_6 : decode cX1_empty 6 = .ok (.iconst 0, 1) := by decide +kernel
theorem dX1_empty_7 : decode cX1_empty 7 = .ok (.putfield 32, 3) := by decide +kernel
theorem dX1_empty_10 : decode cX1_empty 10 = .ok (.aload_n 0, 1) := by decide +kernel
theorem dX1_empty_11 : decode cX1_empty 11 = .ok (.getfield 24, 3) := by decide +kernel
theorem dX1_empty_14 : decode cX1_empty 14 = .ok (.iconst 0, 1) := by decide +kernel
theorem dX1_empty_15 : decode cX1_empty 15 = .ok (.putfield 35, 3) := by decide +kernel
theorem dX1_empty_18 : decode cX1_empty 18 = .ok (.aload_n 0, 1) := by decide +kernel
theorem dX1_empty_19 : decode cX1_empty 19 = .ok (.getfield 24, 3) := by decide +kernel
theorem dX1_empty_22 : decode cX1_empty 22 = .ok (.bipush 15, 2) := by decide +kernel
theorem dX1_empty_24 : decode cX1_empty 24 = .ok (.putfield 38, 3) := by decide +kernel
theorem dX1_empty_27 : decode cX1_empty 27 = .ok (.aload_n 0, 1) := by decide +kernel
theorem dX1_empty_28 : decode cX1_empty 28 = .ok (.getfield 24, 3) := by decide +kernel
theorem dX1_empty_31 : decode cX1_empty 31 = .ok (.iconst 0, 1) := by decide +kernel
theorem dX1_empty_32 : decode cX1_empty 32 = .ok (.putfield 41, 3) := by decide +kernel
theorem dX1_empty_35 : decode cX1_empty 35 = .ok (.aload_n 0, 1) := by decide +kernel
theorem dX1_empty_36 : decode cX1_empty 36 = .ok (.getfield 24, 3) := by decide +kernel
theorem dX1_empty_39 : decode cX1_empty 39 = .ok (.iconst 0, 1) := by decide +kernel
theorem dX1_empty_40 : decode cX1_empty 40 = .ok (.putfield 44, 3) := by decide +kernel
theorem dX1_empty_43 : decode cX1_empty 43 = .ok (.return_, 1) := by decide +kernel
theorem dX1_take_0 : decode cX1_take 0 = .ok (.aload_n 1, 1) := by decide +kernel
theorem dX1_take_1 : decode cX1_take 1 = .ok (.getfield 9, 3) := by decide +kernel
theorem dX1_take_4 : decode cX1_take 4 = .ok (.iconst 0, 1) := by decide +kernel
theorem dX1_take_5 : decode cX1_take 5 = .ok (.aload_n 0, 1) := by decide +kernel
theorem dX1_take_6 : decode cX1_take 6 = .ok (.getfield 9, 3) := by decide +kernel
theorem dX1_take_9 : decode cX1_take 9 = .ok (.iconst 0, 1) := by decide +kernel
theorem dX1_take_10 : decode cX1_take 10 = .ok (.bipush 7, 2) := by decide +kernel
theorem dX1_take_12 : decode cX1_take 12 = .ok (.invokestatic 47, 3) := by decide +kernel
theorem dX1_take_15 : decode cX1_take 15 = .ok (.aload_n 1, 1) := by decide +kernel
theorem dX1_take_16 : decode cX1_take 16 = .ok (.getfield 15, 3) := by decide +kernel
theorem dX1_take_19 : decode cX1_take 19 = .ok (.iconst 0, 1) := by decide +kernel
theorem dX1_take_20 : decode cX1_take 20 = .ok (.aload_n 0, 1) := by decide +kernel
theorem dX1_take_21 : decode cX1_take 21 = .ok (.getfield 15, 3) := by decide +kernel
theorem dX1_take_24 : decode cX1_take 24 = .ok (.iconst 0, 1) := by decide +kernel
theorem dX1_take_25 : decode cX1_take 25 = .ok (.bipush 7, 2) := by decide +kernel
theorem dX1_take_27 : decode cX1_take 27 = .ok (.invokestatic 47, 3) := by decide +kernel
theorem dX1_take_30 : decode cX1_take 30 = .ok (.aload_n 0, 1) := by decide +kernel
theorem dX1_take_31 : decode cX1_take 31 = .ok (.getfield 24, 3) := by decide +kernel
theorem dX1_take_34 : decode cX1_take 34 = .ok (.aload_n 1, 1) := by decide +kernel
theorem dX1_take_35 : decode cX1_take 35 = .ok (.getfield 24, 3) := by decide +kernel
theorem dX1_take_38 : decode cX1_take 38 = .ok (.invokevirtual 53, 3) := by decide +kernel
theorem dX1_take_41 : decode cX1_take 41 = .ok (.aload_n 0, 1) := by decide +kernel
theorem dX1_take_42 : decode cX1_take 42 = .ok (.aload_n 1, 1) := by decide +kernel
theorem dX1_take_43 : decode cX1_take 43 = .ok (.getfield 28, 3) := by decide +kernel
theorem dX1_take_46 : decode cX1_take 46 = .ok (.putfield 28, 3) := by decide +kernel
theorem dX1_take_49 : decode cX1_take 49 = .ok (.aload_n 0, 1) := by decide +kernel
theorem dX1_take_50 : decode cX1_take 50 = .ok (.aload_n 1, 1) := by decide +kernel
theorem dX1_take_51 : decode cX1_take 51 = .ok (.getfield 32, 3) := by decide +kernel
theorem dX1_take_54 : decode cX1_take 54 = .ok (.putfield 32, 3) := by decide +kernel
theorem dX1_take_57 : decode cX1_take 57 = .ok (.return_, 1) := by decide +kernel
theorem dX1_addPerson_0 : decode cX1_addPerson 0 = .ok (.aload_n 0, 1) := by decide +kernel
theorem dX1_addPerson_1 : decode cX1_addPerson 1 = .ok (.getfield 32, 3) := by decide +kernel
theorem dX1_addPerson_4 : decode cX1_addPerson 4 = .ok (.bipush 7, 2) := by decide +kernel
theorem dX1_addPerson_6 : decode cX1_addPerson 6 = .ok (.if_icmp .lt 4, 3) := by decide +kernel
theorem dX1_addPerson_9 : decode cX1_addPerson 9 = .ok (.return_, 1) := by decide +kernel
theorem dX1_addPerson_10 : decode cX1_addPerson 10 = .ok (.aload_n 0, 1) := by decide +kernel
theorem dX1_addPerson_11 : decode cX1_addPerson 11 = .ok (.getfield 24, 3) := by decide +kernel
theorem dX1_addPerson_14 : decode cX1_addPerson 14 = .ok (.getfield 57, 3) := by decide +kernel
theorem dX1_addPerson_17 : decode cX1_addPerson 17 = .ok (.aload_n 0, 1) := by decide +kernel
theorem dX1_addPerson_18 : decode cX1_addPerson 18 = .ok (.getfield 32, 3) := by decide +kernel
theorem dX1_addPerson_21 : decode cX1_addPerson 21 = .ok (.iload_n 1, 1) := by decide +kernel
theorem dX1_addPerson_22 : decode cX1_addPerson 22 = .ok (.iastore, 1) := by decide +kernel
theorem dX1_addPerson_23 : decode cX1_addPerson 23 = .ok (.aload_n 0, 1) := by decide +kernel
theorem dX1_addPerson_24 : decode cX1_addPerson 24 = .ok (.getfield 24, 3) := by decide +kernel
theorem dX1_addPerson_27 : decode cX1_addPerson 27 = .ok (.getfield 60, 3) := by decide +kernel
theorem dX1_addPerson_30 : decode cX1_addPerson 30 = .ok (.aload_n 0, 1) := by decide +kernel
theorem dX1_addPerson_31 : decode cX1_addPerson 31 = .ok (.getfield 32, 3) := by decide +kernel
theorem dX1_addPerson_34 : decode cX1_addPerson 34 = .ok (.iload_n 2, 1) := by decide +kernel
theorem dX1_addPerson_35 : decode cX1_addPerson 35 = .ok (.iastore, 1) := by decide +kernel
theorem dX1_addPerson_36 : decode cX1_addPerson 36 = .ok (.aload_n 0, 1) := by decide +kernel
theorem dX1_addPerson_37 : decode cX1_addPerson 37 = .ok (.getfield 24, 3) := by decide +kernel
theorem dX1_addPerson_40 : decode cX1_addPerson 40 = .ok (.getfield 63, 3) := by decide +kernel
theorem dX1_addPerson_43 : decode cX1_addPerson 43 = .ok (.aload_n 0, 1) := by decide +kernel
theorem dX1_addPerson_44 : decode cX1_addPerson 44 = .ok (.getfield 32, 3) := by decide +kernel
theorem dX1_addPerson_47 : decode cX1_addPerson 47 = .ok (.iconst 0, 1) := by decide +kernel
theorem dX1_addPerson_48 : decode cX1_addPerson 48 = .ok (.iastore, 1) := by decide +kernel
theorem dX1_addPerson_49 : decode cX1_addPerson 49 = .ok (.aload_n 0, 1) := by decide +kernel
theorem dX1_addPerson_50 : decode cX1_addPerson 50 = .ok (.getfield 9, 3) := by decide +kernel
theorem dX1_addPerson_53 : decode cX1_addPerson 53 = .ok (.aload_n 0, 1) := by decide +kernel
theorem dX1_addPerson_54 : decode cX1_addPerson 54 = .ok (.getfield 32, 3) := by decide +kernel
theorem dX1_addPerson_57 : decode cX1_addPerson 57 = .ok (.iload_n 3, 1) := by decide +kernel
theorem dX1_addPerson_58 : decode cX1_addPerson 58 = .ok (.iastore, 1) := by decide +kernel
theorem dX1_addPerson_59 : decode cX1_addPerson 59 = .ok (.aload_n 0, 1) := by decide +kernel
theorem dX1_addPerson_60 : decode cX1_addPerson 60 = .ok (.getfield 15, 3) := by decide +kernel
theorem dX1_addPerson_63 : decode cX1_addPerson 63 = .ok (.aload_n 0, 1) := by decide +kernel
theorem dX1_addPerson_64 : decode cX1_addPerson 64 = .ok (.getfield 32, 3) := by decide +kernel
theorem dX1_addPerson_67 : decode cX1_addPerson 67 = .ok (.iconst 0, 1) := by decide +kernel
theorem dX1_addPerson_68 : decode cX1_addPerson 68 = .ok (.iastore, 1) := by decide +kernel
theorem dX1_addPerson_69 : decode cX1_addPerson 69 = .ok (.aload_n 0, 1) := by decide +kernel
theorem dX1_addPerson_70 : decode cX1_addPerson 70 = .ok (.dup, 1) := by decide +kernel
theorem dX1_addPerson_71 : decode cX1_addPerson 71 = .ok (.getfield 32, 3) := by decide +kernel
theorem dX1_addPerson_74 : decode cX1_addPerson 74 = .ok (.iconst 1, 1) := by decide +kernel
theorem dX1_addPerson_75 : decode cX1_addPerson 75 = .ok (.iadd, 1) := by decide +kernel
theorem dX1_addPerson_76 : decode cX1_addPerson 76 = .ok (.putfield 32, 3) := by decide +kernel
theorem dX1_addPerson_79 : decode cX1_addPerson 79 = .ok (.return_, 1) := by decide +kernel
theorem dX1_hasPerson_0 : decode cX1_hasPerson 0 = .ok (.iload_n 1, 1) := by decide +kernel
theorem dX1_hasPerson_1 : decode cX1_hasPerson 1 = .ok (.iconst 0, 1) := by decide +kernel
theorem dX1_hasPerson_2 : decode cX1_hasPerson 2 = .ok (.aload_n 0, 1) := by decide +kernel
theorem dX1_hasPerson_3 : decode cX1_hasPerson 3 = .ok (.getfield 32, 3) := by decide +kernel
theorem dX1_hasPerson_6 : decode cX1_hasPerson 6 = .ok (.iconst 1, 1) := by decide +kernel
theorem dX1_hasPerson_7 : decode cX1_hasPerson 7 = .ok (.isub, 1) := by decide +kernel
theorem dX1_hasPerson_8 : decode cX1_hasPerson 8 = .ok (.invokestatic 66, 3) := by decide +kernel
theorem dX1_hasPerson_11 : decode cX1_hasPerson 11 = .ok (.ireturn, 1) := by decide +kernel
theorem dX1_hasName_0 : decode cX1_hasName 0 = .ok (.iload_n 1, 1) := by decide +kernel
theorem dX1_hasName_1 : decode cX1_hasName 1 = .ok (.iconst 0, 1) := by decide +kernel
theorem dX1_hasName_2 : decode cX1_hasName 2 = .ok (.aload_n 0, 1) := by decide +kernel
theorem dX1_hasName_3 : decode cX1_hasName 3 = .ok (.getfield 28, 3) := by decide +kernel
theorem dX1_hasName_6 : decode cX1_hasName 6 = .ok (.iconst 1, 1) := by decide +kernel
theorem dX1_hasName_7 : decode cX1_hasName 7 = .ok (.isub, 1) := by decide +kernel
theorem dX1_hasName_8 : decode cX1_hasName 8 = .ok (.invokestatic 66, 3) := by decide +kernel
theorem dX1_hasName_11 : decode cX1_hasName 11 = .ok (.ireturn, 1) := by decide +kernel
theorem dX1_quarrel_0 : decode cX1_quarrel 0 = .ok (.aload_n 0, 1) := by decide +kernel
theorem dX1_quarrel_1 : decode cX1_quarrel 1 = .ok (.getfield 15, 3) := by decide +kernel
theorem dX1_quarrel_4 : decode cX1_quarrel 4 = .ok (.iload_n 1, 1) := by decide +kernel
theorem dX1_quarrel_5 : decode cX1_quarrel 5 = .ok (.iaload, 1) := by decide +kernel
theorem dX1_quarrel_6 : decode cX1_quarrel 6 = .ok (.iload_n 2, 1) := by decide +kernel
theorem dX1_quarrel_7 : decode cX1_quarrel 7 = .ok (.invokestatic 70, 3) := by decide +kernel
theorem dX1_quarrel_10 : decode cX1_quarrel 10 = .ok (.iconst 1, 1) := by decide +kernel
theorem dX1_quarrel_11 : decode cX1_quarrel 11 = .ok (.if_icmp .ne 7, 3) := by decide +kernel
theorem dX1_quarrel_14 : decode cX1_quarrel 14 = .ok (.iconst 1, 1) := by decide +kernel
theorem dX1_quarrel_15 : decode cX1_quarrel 15 = .ok (.goto 4, 3) := by decide +kernel
theorem dX1_quarrel_18 : decode cX1_quarrel 18 = .ok (.iconst 0, 1) := by decide +kernel
theorem dX1_quarrel_19 : decode cX1_quarrel 19 = .ok (.ireturn, 1) := by decide +kernel
theorem dX1_bearers_0 : decode cX1_bearers 0 = .ok (.iconst 0, 1) := by decide +kernel
theorem dX1_bearers_1 : decode cX1_bearers 1 = .ok (.istore_n 2, 1) := by decide +kernel
theorem dX1_bearers_2 : decode cX1_bearers 2 = .ok (.iconst 0, 1) := by decide +kernel
theorem dX1_bearers_3 : decode cX1_bearers 3 = .ok (.istore_n 3, 1) := by decide +kernel
theorem dX1_bearers_4 : decode cX1_bearers 4 = .ok (.iload_n 3, 1) := by decide +kernel
theorem dX1_bearers_5 : decode cX1_bearers 5 = .ok (.aload_n 0, 1) := by decide +kernel
theorem dX1_bearers_6 : decode cX1_bearers 6 = .ok (.getfield 32, 3) := by decide +kernel
theorem dX1_bearers_9 : decode cX1_bearers 9 = .ok (.if_icmp .ge 28, 3) := by decide +kernel
theorem dX1_bearers_12 : decode cX1_bearers 12 = .ok (.aload_n 0, 1) := by decide +kernel
theorem dX1_bearers_13 : decode cX1_bearers 13 = .ok (.getfield 24, 3) := by decide +kernel
theorem dX1_bearers_16 : decode cX1_bearers 16 = .ok (.getfield 57, 3) := by decide +kernel
theorem dX1_bearers_19 : decode cX1_bearers 19 = .ok (.iload_n 3, 1) := by decide +kernel
theorem dX1_bearers_20 : decode cX1_bearers 20 = .ok (.iaload, 1) := by decide +kernel
theorem dX1_bearers_21 : decode cX1_bearers 21 = .ok (.iload_n 1, 1) := by decide +kernel
theorem dX1_bearers_22 : decode cX1_bearers 22 = .ok (.if_icmp .ne 9, 3) := by decide +kernel
theorem dX1_bearers_25 : decode cX1_bearers 25 = .ok (.iload_n 2, 1) := by decide +kernel
theorem dX1_bearers_26 : decode cX1_bearers 26 = .ok (.iconst 1, 1) := by decide +kernel
theorem dX1_bearers_27 : decode cX1_bearers 27 = .ok (.iload_n 3, 1) := by decide +kernel
theorem dX1_bearers_28 : decode cX1_bearers 28 = .ok (.ishl, 1) := by decide +kernel
theorem dX1_bearers_29 : decode cX1_bearers 29 = .ok (.ior, 1) := by decide +kernel
theorem dX1_bearers_30 : decode cX1_bearers 30 = .ok (.istore_n 2, 1) := by decide +kernel
theorem dX1_bearers_31 : decode cX1_bearers 31 = .ok (.iinc 3 1, 3) := by decide +kernel
theorem dX1_bearers_34 : decode cX1_bearers 34 = .ok (.goto (-30), 3) := by decide +kernel
theorem dX1_bearers_37 : decode cX1_bearers 37 = .ok (.iload_n 2, 1) := by decide +kernel
theorem dX1_bearers_38 : decode cX1_bearers 38 = .ok (.ireturn, 1) := by decide +kernel
theorem dX1_wealthOf_0 : decode cX1_wealthOf 0 = .ok (.iconst 0, 1) := by decide +kernel
theorem dX1_wealthOf_1 : decode cX1_wealthOf 1 = .ok (.istore_n 2, 1) := by decide +kernel
theorem dX1_wealthOf_2 : decode cX1_wealthOf 2 = .ok (.iconst 0, 1) := by decide +kernel
theorem dX1_wealthOf_3 : decode cX1_wealthOf 3 = .ok (.istore_n 3, 1) := by decide +kernel
theorem dX1_wealthOf_4 : decode cX1_wealthOf 4 = .ok (.iload_n 3, 1) := by decide +kernel
theorem dX1_wealthOf_5 : decode cX1_wealthOf 5 = .ok (.aload_n 0, 1) := by decide +kernel
theorem dX1_wealthOf_6 : decode cX1_wealthOf 6 = .ok (.getfield 32, 3) := by decide +kernel
theorem dX1_wealthOf_9 : decode cX1_wealthOf 9 = .ok (.if_icmp .ge 27, 3) := by decide +kernel
theorem dX1_wealthOf_12 : decode cX1_wealthOf 12 = .ok (.iload_n 2, 1) := by decide +kernel
theorem dX1_wealthOf_13 : decode cX1_wealthOf 13 = .ok (.iload_n 1, 1) := by decide +kernel
theorem dX1_wealthOf_14 : decode cX1_wealthOf 14 = .ok (.iload_n 3, 1) := by decide +kernel
theorem dX1_wealthOf_15 : decode cX1_wealthOf 15 = .ok (.invokestatic 70, 3) := by decide +kernel
theorem dX1_wealthOf_18 : decode cX1_wealthOf 18 = .ok (.aload_n 0, 1) := by decide +kernel
theorem dX1_wealthOf_19 : decode cX1_wealthOf 19 = .ok (.getfield 24, 3) := by decide +kernel
theorem dX1_wealthOf_22 : decode cX1_wealthOf 22 = .ok (.getfield 60, 3) := by decide +kernel
theorem dX1_wealthOf_25 : decode cX1_wealthOf 25 = .ok (.iload_n 3, 1) := by decide +kernel
theorem dX1_wealthOf_26 : decode cX1_wealthOf 26 = .ok (.iaload, 1) := by decide +kernel
theorem dX1_wealthOf_27 : decode cX1_wealthOf 27 = .ok (.imul, 1) := by decide +kernel
theorem dX1_wealthOf_28 : decode cX1_wealthOf 28 = .ok (.iadd, 1) := by decide +kernel
theorem dX1_wealthOf_29 : decode cX1_wealthOf 29 = .ok (.istore_n 2, 1) := by decide +kernel
theorem dX1_wealthOf_30 : decode cX1_wealthOf 30 = .ok (.iinc 3 1, 3) := by decide +kernel
theorem dX1_wealthOf_33 : decode cX1_wealthOf 33 = .ok (.goto (-29), 3) := by decide +kernel
theorem dX1_wealthOf_36 : decode cX1_wealthOf 36 = .ok (.iload_n 2, 1) := by decide +kernel
theorem dX1_wealthOf_37 : decode cX1_wealthOf 37 = .ok (.ireturn, 1) := by decide +kernel
theorem dX1_limping_0 : decode cX1_limping 0 = .ok (.aload_n 0, 1) := by decide +kernel
theorem dX1_limping_1 : decode cX1_limping 1 = .ok (.aload_n 0, 1) := by decide +kernel
theorem dX1_limping_2 : decode cX1_limping 2 = .ok (.getfield 24, 3) := by decide +kernel
theorem dX1_limping_5 : decode cX1_limping 5 = .ok (.getfield 35, 3) := by decide +kernel
theorem dX1_limping_8 : decode cX1_limping 8 = .ok (.aload_n 0, 1) := by decide +kernel
theorem dX1_limping_9 : decode cX1_limping 9 = .ok (.getfield 24, 3) := by decide +kernel
theorem dX1_limping_12 : decode cX1_limping 12 = .ok (.getfield 38, 3) := by decide +kernel
theorem dX1_limping_15 : decode cX1_limping 15 = .ok (.invokevirtual 74, 3) := by decide +kernel
theorem dX1_limping_18 : decode cX1_limping 18 = .ok (.ireturn, 1) := by decide +kernel
theorem dX1_limpingIf_0 : decode cX1_limpingIf 0 = .ok (.iload_n 2, 1) := by decide +kernel
theorem dX1_limpingIf_1 : decode cX1_limpingIf 1 = .ok (.iconst 1, 1) := by decide +kernel
theorem dX1_limpingIf_2 : decode cX1_limpingIf 2 = .ok (.iand, 1) := by decide +kernel
theorem dX1_limpingIf_3 : decode cX1_limpingIf 3 = .ok (.ifCond .ne 5, 3) := by decide +kernel
theorem dX1_limpingIf_6 : decode cX1_limpingIf 6 = .ok (.iload_n 1, 1) := by decide +kernel
theorem dX1_limpingIf_7 : decode cX1_limpingIf 7 = .ok (.ireturn, 1) := by decide +kernel
theorem dX1_limpingIf_8 : decode cX1_limpingIf 8 = .ok (.iconst 0, 1) := by decide +kernel
theorem dX1_limpingIf_9 : decode cX1_limpingIf 9 = .ok (.istore_n 3, 1) := by decide +kernel
theorem dX1_limpingIf_10 : decode cX1_limpingIf 10 = .ok (.iconst 0, 1) := by decide +kernel
theorem dX1_limpingIf_11 : decode cX1_limpingIf 11 = .ok (.istore 4, 2) := by decide +kernel
theorem dX1_limpingIf_13 : decode cX1_limpingIf 13 = .ok (.iload 4, 2) := by decide +kernel
theorem dX1_limpingIf_15 : decode cX1_limpingIf 15 = .ok (.aload_n 0, 1) := by decide +kernel
theorem dX1_limpingIf_16 : decode cX1_limpingIf 16 = .ok (.getfield 28, 3) := by decide +kernel
theorem dX1_limpingIf_19 : decode cX1_limpingIf 19 = .ok (.if_icmp .ge 29, 3) := by decide +kernel
theorem dX1_limpingIf_22 : decode cX1_limpingIf 22 = .ok (.aload_n 0, 1) := by decide +kernel
theorem dX1_limpingIf_23 : decode cX1_limpingIf 23 = .ok (.iload 4, 2) := by decide +kernel
theorem dX1_limpingIf_25 : decode cX1_limpingIf 25 = .ok (.invokevirtual 77, 3) := by decide +kernel
theorem dX1_limpingIf_28 : decode cX1_limpingIf 28 = .ok (.istore 5, 2) := by decide +kernel
theorem dX1_limpingIf_30 : decode cX1_limpingIf 30 = .ok (.iload 5, 2) := by decide +kernel
theorem dX1_limpingIf_32 : decode cX1_limpingIf 32 = .ok (.iload_n 1, 1) := by decide +kernel
theorem dX1_limpingIf_33 : decode cX1_limpingIf 33 = .ok (.iand, 1) := by decide +kernel
theorem dX1_limpingIf_34 : decode cX1_limpingIf 34 = .ok (.ifCond .eq 8, 3) := by decide +kernel
theorem dX1_limpingIf_37 : decode cX1_limpingIf 37 = .ok (.iload_n 3, 1) := by decide +kernel
theorem dX1_limpingIf_38 : decode cX1_limpingIf 38 = .ok (.iload 5, 2) := by decide +kernel
theorem dX1_limpingIf_40 : decode cX1_limpingIf 40 = .ok (.ior, 1) := by decide +kernel
theorem dX1_limpingIf_41 : decode cX1_limpingIf 41 = .ok (.istore_n 3, 1) := by decide +kernel
theorem dX1_limpingIf_42 : decode cX1_limpingIf 42 = .ok (.iinc 4 1, 3) := by decide +kernel
theorem dX1_limpingIf_45 : decode cX1_limpingIf 45 = .ok (.goto (-32), 3) := by decide +kernel
theorem dX1_limpingIf_48 : decode cX1_limpingIf 48 = .ok (.iload_n 3, 1) := by decide +kernel
theorem dX1_limpingIf_49 : decode cX1_limpingIf 49 = .ok (.ireturn, 1) := by decide +kernel
theorem dX1_fame_0 : decode cX1_fame 0 = .ok (.aload_n 0, 1) := by decide +kernel
theorem dX1_fame_1 : decode cX1_fame 1 = .ok (.getfield 24, 3) := by decide +kernel
theorem dX1_fame_4 : decode cX1_fame 4 = .ok (.getfield 38, 3) := by decide +kernel
theorem dX1_fame_7 : decode cX1_fame 7 = .ok (.bipush 8, 2) := by decide +kernel
theorem dX1_fame_9 : decode cX1_fame 9 = .ok (.iand, 1) := by decide +kernel
theorem dX1_fame_10 : decode cX1_fame 10 = .ok (.ifCond .ne 13, 3) := by decide +kernel
theorem dX1_fame_13 : decode cX1_fame 13 = .ok (.aload_n 0, 1) := by decide +kernel
theorem dX1_fame_14 : decode cX1_fame 14 = .ok (.getfield 24, 3) := by decide +kernel
theorem dX1_fame_17 : decode cX1_fame 17 = .ok (.getfield 63, 3) := by decide +kernel
theorem dX1_fame_20 : decode cX1_fame 20 = .ok (.iload_n 1, 1) := by decide +kernel
theorem dX1_fame_21 : decode cX1_fame 21 = .ok (.iaload, 1) := by decide +kernel
theorem dX1_fame_22 : decode cX1_fame 22 = .ok (.ireturn, 1) := by decide +kernel
theorem dX1_fame_23 : decode cX1_fame 23 = .ok (.iconst 0, 1) := by decide +kernel
theorem dX1_fame_24 : decode cX1_fame 24 = .ok (.istore_n 2, 1) := by decide +kernel
theorem dX1_fame_25 : decode cX1_fame 25 = .ok (.iconst 0, 1) := by decide +kernel
theorem dX1_fame_26 : decode cX1_fame 26 = .ok (.istore_n 3, 1) := by decide +kernel
theorem dX1_fame_27 : decode cX1_fame 27 = .ok (.iload_n 3, 1) := by decide +kernel
theorem dX1_fame_28 : decode cX1_fame 28 = .ok (.aload_n 0, 1) := by decide +kernel
theorem dX1_fame_29 : decode cX1_fame 29 = .ok (.getfield 32, 3) := by decide +kernel
theorem dX1_fame_32 : decode cX1_fame 32 = .ok (.if_icmp .ge 42, 3) := by decide +kernel
theorem dX1_fame_35 : decode cX1_fame 35 = .ok (.aload_n 0, 1) := by decide +kernel
theorem dX1_fame_36 : decode cX1_fame 36 = .ok (.getfield 24, 3) := by decide +kernel
theorem dX1_fame_39 : decode cX1_fame 39 = .ok (.getfield 57, 3) := by decide +kernel
theorem dX1_fame_42 : decode cX1_fame 42 = .ok (.iload_n 3, 1) := by decide +kernel
theorem dX1_fame_43 : decode cX1_fame 43 = .ok (.iaload, 1) := by decide +kernel
theorem dX1_fame_44 : decode cX1_fame 44 = .ok (.aload_n 0, 1) := by decide +kernel
theorem dX1_fame_45 : decode cX1_fame 45 = .ok (.getfield 24, 3) := by decide +kernel
theorem dX1_fame_48 : decode cX1_fame 48 = .ok (.getfield 57, 3) := by decide +kernel
theorem dX1_fame_51 : decode cX1_fame 51 = .ok (.iload_n 1, 1) := by decide +kernel
theorem dX1_fame_52 : decode cX1_fame 52 = .ok (.iaload, 1) := by decide +kernel
theorem dX1_fame_53 : decode cX1_fame 53 = .ok (.if_icmp .ne 15, 3) := by decide +kernel
theorem dX1_fame_56 : decode cX1_fame 56 = .ok (.iload_n 2, 1) := by decide +kernel
theorem dX1_fame_57 : decode cX1_fame 57 = .ok (.aload_n 0, 1) := by decide +kernel
theorem dX1_fame_58 : decode cX1_fame 58 = .ok (.getfield 24, 3) := by decide +kernel
theorem dX1_fame_61 : decode cX1_fame 61 = .ok (.getfield 63, 3) := by decide +kernel
theorem dX1_fame_64 : decode cX1_fame 64 = .ok (.iload_n 3, 1) := by decide +kernel
theorem dX1_fame_65 : decode cX1_fame 65 = .ok (.iaload, 1) := by decide +kernel
theorem dX1_fame_66 : decode cX1_fame 66 = .ok (.iadd, 1) := by decide +kernel
theorem dX1_fame_67 : decode cX1_fame 67 = .ok (.istore_n 2, 1) := by decide +kernel
theorem dX1_fame_68 : decode cX1_fame 68 = .ok (.iinc 3 1, 3) := by decide +kernel
theorem dX1_fame_71 : decode cX1_fame 71 = .ok (.goto (-44), 3) := by decide +kernel
theorem dX1_fame_74 : decode cX1_fame 74 = .ok (.iload_n 2, 1) := by decide +kernel
theorem dX1_fame_75 : decode cX1_fame 75 = .ok (.ireturn, 1) := by decide +kernel
theorem dX1_tax_0 : decode cX1_tax 0 = .ok (.aload_n 0, 1) := by decide +kernel
theorem dX1_tax_1 : decode cX1_tax 1 = .ok (.iload_n 1, 1) := by decide +kernel
theorem dX1_tax_2 : decode cX1_tax 2 = .ok (.aload_n 0, 1) := by decide +kernel
theorem dX1_tax_3 : decode cX1_tax 3 = .ok (.getfield 24, 3) := by decide +kernel
theorem dX1_tax_6 : decode cX1_tax 6 = .ok (.getfield 57, 3) := by decide +kernel
theorem dX1_tax_9 : decode cX1_tax 9 = .ok (.iload_n 1, 1) := by decide +kernel
theorem dX1_tax_10 : decode cX1_tax 10 = .ok (.iaload, 1) := by decide +kernel
theorem dX1_tax_11 : decode cX1_tax 11 = .ok (.invokevirtual 81, 3) := by decide +kernel
theorem dX1_tax_14 : decode cX1_tax 14 = .ok (.ireturn, 1) := by decide +kernel
theorem dX1_taxIfNamed_0 : decode cX1_taxIfNamed 0 = .ok (.aload_n 0, 1) := by decide +kernel
theorem dX1_taxIfNamed_1 : decode cX1_taxIfNamed 1 = .ok (.getfield 24, 3) := by decide +kernel
theorem dX1_taxIfNamed_4 : decode cX1_taxIfNamed 4 = .ok (.getfield 38, 3) := by decide +kernel
theorem dX1_taxIfNamed_7 : decode cX1_taxIfNamed 7 = .ok (.iconst 4, 1) := by decide +kernel
theorem dX1_taxIfNamed_8 : decode cX1_taxIfNamed 8 = .ok (.iand, 1) := by decide +kernel
theorem dX1_taxIfNamed_9 : decode cX1_taxIfNamed 9 = .ok (.ifCond .ne 16, 3) := by decide +kernel
theorem dX1_taxIfNamed_12 : decode cX1_taxIfNamed 12 = .ok (.aload_n 0, 1) := by decide +kernel
theorem dX1_taxIfNamed_13 : decode cX1_taxIfNamed 13 = .ok (.getfield 24, 3) := by decide +kernel
theorem dX1_taxIfNamed_16 : decode cX1_taxIfNamed 16 = .ok (.getfield 60, 3) := by decide +kernel
theorem dX1_taxIfNamed_19 : decode cX1_taxIfNamed 19 = .ok (.iload_n 1, 1) := by decide +kernel
theorem dX1_taxIfNamed_20 : decode cX1_taxIfNamed 20 = .ok (.iaload, 1) := by decide +kernel
theorem dX1_taxIfNamed_21 : decode cX1_taxIfNamed 21 = .ok (.bipush 10, 2) := by decide +kernel
theorem dX1_taxIfNamed_23 : decode cX1_taxIfNamed 23 = .ok (.idiv, 1) := by decide +kernel
theorem dX1_taxIfNamed_24 : decode cX1_taxIfNamed 24 = .ok (.ireturn, 1) := by decide +kernel
theorem dX1_taxIfNamed_25 : decode cX1_taxIfNamed 25 = .ok (.aload_n 0, 1) := by decide +kernel
theorem dX1_taxIfNamed_26 : decode cX1_taxIfNamed 26 = .ok (.iload_n 2, 1) := by decide +kernel
theorem dX1_taxIfNamed_27 : decode cX1_taxIfNamed 27 = .ok (.invokevirtual 77, 3) := by decide +kernel
theorem dX1_taxIfNamed_30 : decode cX1_taxIfNamed 30 = .ok (.iconst 1, 1) := by decide +kernel
theorem dX1_taxIfNamed_31 : decode cX1_taxIfNamed 31 = .ok (.iload_n 1, 1) := by decide +kernel
theorem dX1_taxIfNamed_32 : decode cX1_taxIfNamed 32 = .ok (.ishl, 1) := by decide +kernel
theorem dX1_taxIfNamed_33 : decode cX1_taxIfNamed 33 = .ok (.ior, 1) := by decide +kernel
theorem dX1_taxIfNamed_34 : decode cX1_taxIfNamed 34 = .ok (.istore_n 3, 1) := by decide +kernel
theorem dX1_taxIfNamed_35 : decode cX1_taxIfNamed 35 = .ok (.iconst 1, 1) := by decide +kernel
theorem dX1_taxIfNamed_36 : decode cX1_taxIfNamed 36 = .ok (.iload_n 3, 1) := by decide +kernel
theorem dX1_taxIfNamed_37 : decode cX1_taxIfNamed 37 = .ok (.invokestatic 84, 3) := by decide +kernel
theorem dX1_taxIfNamed_40 : decode cX1_taxIfNamed 40 = .ok (.invokestatic 89, 3) := by decide +kernel
theorem dX1_taxIfNamed_43 : decode cX1_taxIfNamed 43 = .ok (.istore 4, 2) := by decide +kernel
theorem dX1_taxIfNamed_45 : decode cX1_taxIfNamed 45 = .ok (.aload_n 0, 1) := by decide +kernel
theorem dX1_taxIfNamed_46 : decode cX1_taxIfNamed 46 = .ok (.iload_n 3, 1) := by decide +kernel
theorem dX1_taxIfNamed_47 : decode cX1_taxIfNamed 47 = .ok (.invokevirtual 94, 3) := by decide +kernel
theorem dX1_taxIfNamed_50 : decode cX1_taxIfNamed 50 = .ok (.iload 4, 2) := by decide +kernel
theorem dX1_taxIfNamed_52 : decode cX1_taxIfNamed 52 = .ok (.idiv, 1) := by decide +kernel
theorem dX1_taxIfNamed_53 : decode cX1_taxIfNamed 53 = .ok (.bipush 10, 2) := by decide +kernel
theorem dX1_taxIfNamed_55 : decode cX1_taxIfNamed 55 = .ok (.idiv, 1) := by decide +kernel
theorem dX1_taxIfNamed_56 : decode cX1_taxIfNamed 56 = .ok (.ireturn, 1) := by decide +kernel
theorem dX1_payTax_0 : decode cX1_payTax 0 = .ok (.iconst 0, 1) := by decide +kernel
theorem dX1_payTax_1 : decode cX1_payTax 1 = .ok (.istore_n 1, 1) := by decide +kernel
theorem dX1_payTax_2 : decode cX1_payTax 2 = .ok (.iload_n 1, 1) := by decide +kernel
theorem dX1_payTax_3 : decode cX1_payTax 3 = .ok (.aload_n 0, 1) := by decide +kernel
theorem dX1_payTax_4 : decode cX1_payTax 4 = .ok (.getfield 32, 3) := by decide +kernel
theorem dX1_payTax_7 : decode cX1_payTax 7 = .ok (.if_icmp .ge 32, 3) := by decide +kernel
theorem dX1_payTax_10 : decode cX1_payTax 10 = .ok (.aload_n 0, 1) := by decide +kernel
theorem dX1_payTax_11 : decode cX1_payTax 11 = .ok (.getfield 18, 3) := by decide +kernel
theorem dX1_payTax_14 : decode cX1_payTax 14 = .ok (.iload_n 1, 1) := by decide +kernel
theorem dX1_payTax_15 : decode cX1_payTax 15 = .ok (.aload_n 0, 1) := by decide +kernel
theorem dX1_payTax_16 : decode cX1_payTax 16 = .ok (.iload_n 1, 1) := by decide +kernel
theorem dX1_payTax_17 : decode cX1_payTax 17 = .ok (.invokevirtual 97, 3) := by decide +kernel
theorem dX1_payTax_20 : decode cX1_payTax 20 = .ok (.aload_n 0, 1) := by decide +kernel
theorem dX1_payTax_21 : decode cX1_payTax 21 = .ok (.getfield 24, 3) := by decide +kernel
theorem dX1_payTax_24 : decode cX1_payTax 24 = .ok (.getfield 60, 3) := by decide +kernel
theorem dX1_payTax_27 : decode cX1_payTax 27 = .ok (.iload_n 1, 1) := by decide +kernel
theorem dX1_payTax_28 : decode cX1_payTax 28 = .ok (.iaload, 1) := by decide +kernel
theorem dX1_payTax_29 : decode cX1_payTax 29 = .ok (.invokestatic 100, 3) := by decide +kernel
theorem dX1_payTax_32 : decode cX1_payTax 32 = .ok (.iastore, 1) := by decide +kernel
theorem dX1_payTax_33 : decode cX1_payTax 33 = .ok (.iinc 1 1, 3) := by decide +kernel
theorem dX1_payTax_36 : decode cX1_payTax 36 = .ok (.goto (-34), 3) := by decide +kernel
theorem dX1_payTax_39 : decode cX1_payTax 39 = .ok (.iconst 0, 1) := by decide +kernel
theorem dX1_payTax_40 : decode cX1_payTax 40 = .ok (.istore_n 1, 1) := by decide +kernel
theorem dX1_payTax_41 : decode cX1_payTax 41 = .ok (.iconst 0, 1) := by decide +kernel
theorem dX1_payTax_42 : decode cX1_payTax 42 = .ok (.istore_n 2, 1) := by decide +kernel
theorem dX1_payTax_43 : decode cX1_payTax 43 = .ok (.iload_n 2, 1) := by decide +kernel
theorem dX1_payTax_44 : decode cX1_payTax 44 = .ok (.aload_n 0, 1) := by decide +kernel
theorem dX1_payTax_45 : decode cX1_payTax 45 = .ok (.getfield 32, 3) := by decide +kernel
theorem dX1_payTax_48 : decode cX1_payTax 48 = .ok (.if_icmp .ge 36, 3) := by decide +kernel
theorem dX1_payTax_51 : decode cX1_payTax 51 = .ok (.aload_n 0, 1) := by decide +kernel
theorem dX1_payTax_52 : decode cX1_payTax 52 = .ok (.getfield 24, 3) := by decide +kernel
theorem dX1_payTax_55 : decode cX1_payTax 55 = .ok (.getfield 60, 3) := by decide +kernel
theorem dX1_payTax_58 : decode cX1_payTax 58 = .ok (.iload_n 2, 1) := by decide +kernel
theorem dX1_payTax_59 : decode cX1_payTax 59 = .ok (.dup2, 1) := by decide +kernel
theorem dX1_payTax_60 : decode cX1_payTax 60 = .ok (.iaload, 1) := by decide +kernel
theorem dX1_payTax_61 : decode cX1_payTax 61 = .ok (.aload_n 0, 1) := by decide +kernel
theorem dX1_payTax_62 : decode cX1_payTax 62 = .ok (.getfield 18, 3) := by decide +kernel
theorem dX1_payTax_65 : decode cX1_payTax 65 = .ok (.iload_n 2, 1) := by decide +kernel
theorem dX1_payTax_66 : decode cX1_payTax 66 = .ok (.iaload, 1) := by decide +kernel
theorem dX1_payTax_67 : decode cX1_payTax 67 = .ok (.isub, 1) := by decide +kernel
theorem dX1_payTax_68 : decode cX1_payTax 68 = .ok (.iastore, 1) := by decide +kernel
theorem dX1_payTax_69 : decode cX1_payTax 69 = .ok (.iload_n 1, 1) := by decide +kernel
theorem dX1_payTax_70 : decode cX1_payTax 70 = .ok (.aload_n 0, 1) := by decide +kernel
theorem dX1_payTax_71 : decode cX1_payTax 71 = .ok (.getfield 18, 3) := by decide +kernel
theorem dX1_payTax_74 : decode cX1_payTax 74 = .ok (.iload_n 2, 1) := by decide +kernel
theorem dX1_payTax_75 : decode cX1_payTax 75 = .ok (.iaload, 1) := by decide +kernel
theorem dX1_payTax_76 : decode cX1_payTax 76 = .ok (.iadd, 1) := by decide +kernel
theorem dX1_payTax_77 : decode cX1_payTax 77 = .ok (.istore_n 1, 1) := by decide +kernel
theorem dX1_payTax_78 : decode cX1_payTax 78 = .ok (.iinc 2 1, 3) := by decide +kernel
theorem dX1_payTax_81 : decode cX1_payTax 81 = .ok (.goto (-38), 3) := by decide +kernel
theorem dX1_payTax_84 : decode cX1_payTax 84 = .ok (.aload_n 0, 1) := by decide +kernel
theorem dX1_payTax_85 : decode cX1_payTax 85 = .ok (.getfield 24, 3) := by decide +kernel
theorem dX1_payTax_88 : decode cX1_payTax 88 = .ok (.ldc 103, 2) := by decide +kernel
theorem dX1_payTax_90 : decode cX1_payTax 90 = .ok (.aload_n 0, 1) := by decide +kernel
theorem dX1_payTax_91 : decode cX1_payTax 91 = .ok (.getfield 24, 3) := by decide +kernel
theorem dX1_payTax_94 : decode cX1_payTax 94 = .ok (.getfield 41, 3) := by decide +kernel
theorem dX1_payTax_97 : decode cX1_payTax 97 = .ok (.iload_n 1, 1) := by decide +kernel
theorem dX1_payTax_98 : decode cX1_payTax 98 = .ok (.iadd, 1) := by decide +kernel
theorem dX1_payTax_99 : decode cX1_payTax 99 = .ok (.invokestatic 100, 3) := by decide +kernel
theorem dX1_payTax_102 : decode cX1_payTax 102 = .ok (.putfield 41, 3) := by decide +kernel
theorem dX1_payTax_105 : decode cX1_payTax 105 = .ok (.aload_n 0, 1) := by decide +kernel
theorem dX1_payTax_106 : decode cX1_payTax 106 = .ok (.getfield 24, 3) := by decide +kernel
theorem dX1_payTax_109 : decode cX1_payTax 109 = .ok (.dup, 1) := by decide +kernel
theorem dX1_payTax_110 : decode cX1_payTax 110 = .ok (.getfield 44, 3) := by decide +kernel
theorem dX1_payTax_113 : decode cX1_payTax 113 = .ok (.iconst 1, 1) := by decide +kernel
theorem dX1_payTax_114 : decode cX1_payTax 114 = .ok (.iadd, 1) := by decide +kernel
theorem dX1_payTax_115 : decode cX1_payTax 115 = .ok (.putfield 44, 3) := by decide +kernel
theorem dX1_payTax_118 : decode cX1_payTax 118 = .ok (.iload_n 1, 1) := by decide +kernel
theorem dX1_payTax_119 : decode cX1_payTax 119 = .ok (.ireturn, 1) := by decide +kernel
theorem dX1_cheapestName_0 : decode cX1_cheapestName 0 = .ok (.iconst 0, 1) := by decide +kernel
theorem dX1_cheapestName_1 : decode cX1_cheapestName 1 = .ok (.istore_n 2, 1) := by decide +kernel
theorem dX1_cheapestName_2 : decode cX1_cheapestName 2 = .ok (.iconst 1, 1) := by decide +kernel
theorem dX1_cheapestName_3 : decode cX1_cheapestName 3 = .ok (.istore_n 3, 1) := by decide +kernel
theorem dX1_cheapestName_4 : decode cX1_cheapestName 4 = .ok (.iload_n 3, 1) := by decide +kernel
theorem dX1_cheapestName_5 : decode cX1_cheapestName 5 = .ok (.aload_n 0, 1) := by decide +kernel
theorem dX1_cheapestName_6 : decode cX1_cheapestName 6 = .ok (.getfield 28, 3) := by decide +kernel
theorem dX1_cheapestName_9 : decode cX1_cheapestName 9 = .ok (.if_icmp .ge 26, 3) := by decide +kernel
theorem dX1_cheapestName_12 : decode cX1_cheapestName 12 = .ok (.aload_n 0, 1) := by decide +kernel
theorem dX1_cheapestName_13 : decode cX1_cheapestName 13 = .ok (.iload_n 1, 1) := by decide +kernel
theorem dX1_cheapestName_14 : decode cX1_cheapestName 14 = .ok (.iload_n 3, 1) := by decide +kernel
theorem dX1_cheapestName_15 : decode cX1_cheapestName 15 = .ok (.invokevirtual 81, 3) := by decide +kernel
theorem dX1_cheapestName_18 : decode cX1_cheapestName 18 = .ok (.aload_n 0, 1) := by decide +kernel
theorem dX1_cheapestName_19 : decode cX1_cheapestName 19 = .ok (.iload_n 1, 1) := by decide +kernel
theorem dX1_cheapestName_20 : decode cX1_cheapestName 20 = .ok (.iload_n 2, 1) := by decide +kernel
theorem dX1_cheapestName_21 : decode cX1_cheapestName 21 = .ok (.invokevirtual 81, 3) := by decide +kernel
theorem dX1_cheapestName_24 : decode cX1_cheapestName 24 = .ok (.if_icmp .ge 5, 3) := by decide +kernel
theorem dX1_cheapestName_27 : decode cX1_cheapestName 27 = .ok (.iload_n 3, 1) := by decide +kernel
theorem dX1_cheapestName_28 : decode cX1_cheapestName 28 = .ok (.istore_n 2, 1) := by decide +kernel
theorem dX1_cheapestName_29 : decode cX1_cheapestName 29 = .ok (.iinc 3 1, 3) := by decide +kernel
theorem dX1_cheapestName_32 : decode cX1_cheapestName 32 = .ok (.goto (-28), 3) := by decide +kernel
theorem dX1_cheapestName_35 : decode cX1_cheapestName 35 = .ok (.iload_n 2, 1) := by decide +kernel
theorem dX1_cheapestName_36 : decode cX1_cheapestName 36 = .ok (.ireturn, 1) := by decide +kernel
theorem dX1_restless_0 : decode cX1_restless 0 = .ok (.iconst 0, 1) := by decide +kernel
theorem dX1_restless_1 : decode cX1_restless 1 = .ok (.istore_n 1, 1) := by decide +kernel
theorem dX1_restless_2 : decode cX1_restless 2 = .ok (.iconst 0, 1) := by decide +kernel
theorem dX1_restless_3 : decode cX1_restless 3 = .ok (.istore_n 2, 1) := by decide +kernel
theorem dX1_restless_4 : decode cX1_restless 4 = .ok (.iload_n 2, 1) := by decide +kernel
theorem dX1_restless_5 : decode cX1_restless 5 = .ok (.aload_n 0, 1) := by decide +kernel
theorem dX1_restless_6 : decode cX1_restless 6 = .ok (.getfield 32, 3) := by decide +kernel
theorem dX1_restless_9 : decode cX1_restless 9 = .ok (.if_icmp .ge 33, 3) := by decide +kernel
theorem dX1_restless_12 : decode cX1_restless 12 = .ok (.aload_n 0, 1) := by decide +kernel
theorem dX1_restless_13 : decode cX1_restless 13 = .ok (.iload_n 2, 1) := by decide +kernel
theorem dX1_restless_14 : decode cX1_restless 14 = .ok (.aload_n 0, 1) := by decide +kernel
theorem dX1_restless_15 : decode cX1_restless 15 = .ok (.iload_n 2, 1) := by decide +kernel
theorem dX1_restless_16 : decode cX1_restless 16 = .ok (.invokevirtual 104, 3) := by decide +kernel
theorem dX1_restless_19 : decode cX1_restless 19 = .ok (.invokevirtual 81, 3) := by decide +kernel
theorem dX1_restless_22 : decode cX1_restless 22 = .ok (.aload_n 0, 1) := by decide +kernel
theorem dX1_restless_23 : decode cX1_restless 23 = .ok (.iload_n 2, 1) := by decide +kernel
theorem dX1_restless_24 : decode cX1_restless 24 = .ok (.invokevirtual 97, 3) := by decide +kernel
theorem dX1_restless_27 : decode cX1_restless 27 = .ok (.if_icmp .ge 9, 3) := by decide +kernel
theorem dX1_restless_30 : decode cX1_restless 30 = .ok (.iload_n 1, 1) := by decide +kernel
theorem dX1_restless_31 : decode cX1_restless 31 = .ok (.iconst 1, 1) := by decide +kernel
theorem dX1_restless_32 : decode cX1_restless 32 = .ok (.iload_n 2, 1) := by decide +kernel
theorem dX1_restless_33 : decode cX1_restless 33 = .ok (.ishl, 1) := by decide +kernel
theorem dX1_restless_34 : decode cX1_restless 34 = .ok (.ior, 1) := by decide +kernel
theorem dX1_restless_35 : decode cX1_restless 35 = .ok (.istore_n 1, 1) := by decide +kernel
theorem dX1_restless_36 : decode cX1_restless 36 = .ok (.iinc 2 1, 3) := by decide +kernel
theorem dX1_restless_39 : decode cX1_restless 39 = .ok (.goto (-35), 3) := by decide +kernel
theorem dX1_restless_42 : decode cX1_restless 42 = .ok (.iload_n 1, 1) := by decide +kernel
theorem dX1_restless_43 : decode cX1_restless 43 = .ok (.ireturn, 1) := by decide +kernel
theorem dX1_alone_0 : decode cX1_alone 0 = .ok (.iconst 0, 1) := by decide +kernel
theorem dX1_alone_1 : decode cX1_alone 1 = .ok (.istore_n 1, 1) := by decide +kernel
theorem dX1_alone_2 : decode cX1_alone 2 = .ok (.iconst 0, 1) := by decide +kernel
theorem dX1_alone_3 : decode cX1_alone 3 = .ok (.istore_n 2, 1) := by decide +kernel
theorem dX1_alone_4 : decode cX1_alone 4 = .ok (.iload_n 2, 1) := by decide +kernel
theorem dX1_alone_5 : decode cX1_alone 5 = .ok (.aload_n 0, 1) := by decide +kernel
theorem dX1_alone_6 : decode cX1_alone 6 = .ok (.getfield 28, 3) := by decide +kernel
theorem dX1_alone_9 : decode cX1_alone 9 = .ok (.if_icmp .ge 27, 3) := by decide +kernel
theorem dX1_alone_12 : decode cX1_alone 12 = .ok (.aload_n 0, 1) := by decide +kernel
theorem dX1_alone_13 : decode cX1_alone 13 = .ok (.iload_n 2, 1) := by decide +kernel
theorem dX1_alone_14 : decode cX1_alone 14 = .ok (.invokevirtual 77, 3) := by decide +kernel
theorem dX1_alone_17 : decode cX1_alone 17 = .ok (.istore_n 3, 1) := by decide +kernel
theorem dX1_alone_18 : decode cX1_alone 18 = .ok (.iload_n 3, 1) := by decide +kernel
theorem dX1_alone_19 : decode cX1_alone 19 = .ok (.invokestatic 84, 3) := by decide +kernel
theorem dX1_alone_22 : decode cX1_alone 22 = .ok (.iconst 1, 1) := by decide +kernel
theorem dX1_alone_23 : decode cX1_alone 23 = .ok (.if_icmp .ne 7, 3) := by decide +kernel
theorem dX1_alone_26 : decode cX1_alone 26 = .ok (.iload_n 1, 1) := by decide +kernel
theorem dX1_alone_27 : decode cX1_alone 27 = .ok (.iload_n 3, 1) := by decide +kernel
theorem dX1_alone_28 : decode cX1_alone 28 = .ok (.ior, 1) := by decide +kernel
theorem dX1_alone_29 : decode cX1_alone 29 = .ok (.istore_n 1, 1) := by decide +kernel
theorem dX1_alone_30 : decode cX1_alone 30 = .ok (.iinc 2 1, 3) := by decide +kernel
theorem dX1_alone_33 : decode cX1_alone 33 = .ok (.goto (-29), 3) := by decide +kernel
theorem dX1_alone_36 : decode cX1_alone 36 = .ok (.iload_n 1, 1) := by decide +kernel
theorem dX1_alone_37 : decode cX1_alone 37 = .ok (.ireturn, 1) := by decide +kernel
theorem dX1_badOnes_0 : decode cX1_badOnes 0 = .ok (.iconst 0, 1) := by decide +kernel
theorem dX1_badOnes_1 : decode cX1_badOnes 1 = .ok (.istore_n 1, 1) := by decide +kernel
theorem dX1_badOnes_2 : decode cX1_badOnes 2 = .ok (.iconst 0, 1) := by decide +kernel
theorem dX1_badOnes_3 : decode cX1_badOnes 3 = .ok (.istore_n 2, 1) := by decide +kernel
theorem dX1_badOnes_4 : decode cX1_badOnes 4 = .ok (.iload_n 2, 1) := by decide +kernel
theorem dX1_badOnes_5 : decode cX1_badOnes 5 = .ok (.aload_n 0, 1) := by decide +kernel
theorem dX1_badOnes_6 : decode cX1_badOnes 6 = .ok (.getfield 32, 3) := by decide +kernel
theorem dX1_badOnes_9 : decode cX1_badOnes 9 = .ok (.if_icmp .ge 60, 3) := by decide +kernel
theorem dX1_badOnes_12 : decode cX1_badOnes 12 = .ok (.iload_n 2, 1) := by decide +kernel
theorem dX1_badOnes_13 : decode cX1_badOnes 13 = .ok (.iconst 1, 1) := by decide +kernel
theorem dX1_badOnes_14 : decode cX1_badOnes 14 = .ok (.iadd, 1) := by decide +kernel
theorem dX1_badOnes_15 : decode cX1_badOnes 15 = .ok (.istore_n 3, 1) := by decide +kernel
theorem dX1_badOnes_16 : decode cX1_badOnes 16 = .ok (.iload_n 3, 1) := by decide +kernel
theorem dX1_badOnes_17 : decode cX1_badOnes 17 = .ok (.aload_n 0, 1) := by decide +kernel
theorem dX1_badOnes_18 : decode cX1_badOnes 18 = .ok (.getfield 32, 3) := by decide +kernel
theorem dX1_badOnes_21 : decode cX1_badOnes 21 = .ok (.if_icmp .ge 42, 3) := by decide +kernel
theorem dX1_badOnes_24 : decode cX1_badOnes 24 = .ok (.aload_n 0, 1) := by decide +kernel
theorem dX1_badOnes_25 : decode cX1_badOnes 25 = .ok (.iload_n 2, 1) := by decide +kernel
theorem dX1_badOnes_26 : decode cX1_badOnes 26 = .ok (.iload_n 3, 1) := by decide +kernel
theorem dX1_badOnes_27 : decode cX1_badOnes 27 = .ok (.invokevirtual 107, 3) := by decide +kernel
theorem dX1_badOnes_30 : decode cX1_badOnes 30 = .ok (.ifCond .eq 27, 3) := by decide +kernel
theorem dX1_badOnes_33 : decode cX1_badOnes 33 = .ok (.aload_n 0, 1) := by decide +kernel
theorem dX1_badOnes_34 : decode cX1_badOnes 34 = .ok (.getfield 24, 3) := by decide +kernel
theorem dX1_badOnes_37 : decode cX1_badOnes 37 = .ok (.getfield 57, 3) := by decide +kernel
theorem dX1_badOnes_40 : decode cX1_badOnes 40 = .ok (.iload_n 2, 1) := by decide +kernel
theorem dX1_badOnes_41 : decode cX1_badOnes 41 = .ok (.iaload, 1) := by decide +kernel
theorem dX1_badOnes_42 : decode cX1_badOnes 42 = .ok (.aload_n 0, 1) := by decide +kernel
theorem dX1_badOnes_43 : decode cX1_badOnes 43 = .ok (.getfield 24, 3) := by decide +kernel
theorem dX1_badOnes_46 : decode cX1_badOnes 46 = .ok (.getfield 57, 3) := by decide +kernel
theorem dX1_badOnes_49 : decode cX1_badOnes 49 = .ok (.iload_n 3, 1) := by decide +kernel
theorem dX1_badOnes_50 : decode cX1_badOnes 50 = .ok (.iaload, 1) := by decide +kernel
theorem dX1_badOnes_51 : decode cX1_badOnes 51 = .ok (.if_icmp .ne 6, 3) := by decide +kernel
theorem dX1_badOnes_54 : decode cX1_badOnes 54 = .ok (.iinc 1 1, 3) := by decide +kernel
theorem dX1_badOnes_57 : decode cX1_badOnes 57 = .ok (.iinc 3 1, 3) := by decide +kernel
theorem dX1_badOnes_60 : decode cX1_badOnes 60 = .ok (.goto (-44), 3) := by decide +kernel
theorem dX1_badOnes_63 : decode cX1_badOnes 63 = .ok (.iinc 2 1, 3) := by decide +kernel
theorem dX1_badOnes_66 : decode cX1_badOnes 66 = .ok (.goto (-62), 3) := by decide +kernel
theorem dX1_badOnes_69 : decode cX1_badOnes 69 = .ok (.iload_n 1, 1) := by decide +kernel
theorem dX1_badOnes_70 : decode cX1_badOnes 70 = .ok (.ireturn, 1) := by decide +kernel
theorem dX1_sayers_0 : decode cX1_sayers 0 = .ok (.iconst 0, 1) := by decide +kernel
theorem dX1_sayers_1 : decode cX1_sayers 1 = .ok (.istore_n 3, 1) := by decide +kernel
theorem dX1_sayers_2 : decode cX1_sayers 2 = .ok (.iconst 0, 1) := by decide +kernel
theorem dX1_sayers_3 : decode cX1_sayers 3 = .ok (.istore 4, 2) := by decide +kernel
theorem dX1_sayers_5 : decode cX1_sayers 5 = .ok (.iload 4, 2) := by decide +kernel
theorem dX1_sayers_7 : decode cX1_sayers 7 = .ok (.aload_n 0, 1) := by decide +kernel
theorem dX1_sayers_8 : decode cX1_sayers 8 = .ok (.getfield 32, 3) := by decide +kernel
theorem dX1_sayers_11 : decode cX1_sayers 11 = .ok (.if_icmp .ge 31, 3) := by decide +kernel
theorem dX1_sayers_14 : decode cX1_sayers 14 = .ok (.aload_n 0, 1) := by decide +kernel
theorem dX1_sayers_15 : decode cX1_sayers 15 = .ok (.getfield 9, 3) := by decide +kernel
theorem dX1_sayers_18 : decode cX1_sayers 18 = .ok (.iload 4, 2) := by decide +kernel
theorem dX1_sayers_20 : decode cX1_sayers 20 = .ok (.iaload, 1) := by decide +kernel
theorem dX1_sayers_21 : decode cX1_sayers 21 = .ok (.iload_n 1, 1) := by decide +kernel
theorem dX1_sayers_22 : decode cX1_sayers 22 = .ok (.invokestatic 70, 3) := by decide +kernel
theorem dX1_sayers_25 : decode cX1_sayers 25 = .ok (.iload_n 2, 1) := by decide +kernel
theorem dX1_sayers_26 : decode cX1_sayers 26 = .ok (.if_icmp .ne 10, 3) := by decide +kernel
theorem dX1_sayers_29 : decode cX1_sayers 29 = .ok (.iload_n 3, 1) := by decide +kernel
theorem dX1_sayers_30 : decode cX1_sayers 30 = .ok (.iconst 1, 1) := by decide +kernel
theorem dX1_sayers_31 : decode cX1_sayers 31 = .ok (.iload 4, 2) := by decide +kernel
theorem dX1_sayers_33 : decode cX1_sayers 33 = .ok (.ishl, 1) := by decide +kernel
theorem dX1_sayers_34 : decode cX1_sayers 34 = .ok (.ior, 1) := by decide +kernel
theorem dX1_sayers_35 : decode cX1_sayers 35 = .ok (.istore_n 3, 1) := by decide +kernel
theorem dX1_sayers_36 : decode cX1_sayers 36 = .ok (.iinc 4 1, 3) := by decide +kernel
theorem dX1_sayers_39 : decode cX1_sayers 39 = .ok (.goto (-34), 3) := by decide +kernel
theorem dX1_sayers_42 : decode cX1_sayers 42 = .ok (.iload_n 3, 1) := by decide +kernel
theorem dX1_sayers_43 : decode cX1_sayers 43 = .ok (.ireturn, 1) := by decide +kernel
theorem dX1_votes_0 : decode cX1_votes 0 = .ok (.iconst 0, 1) := by decide +kernel
theorem dX1_votes_1 : decode cX1_votes 1 = .ok (.istore 5, 2) := by decide +kernel
theorem dX1_votes_3 : decode cX1_votes 3 = .ok (.iconst 0, 1) := by decide +kernel
theorem dX1_votes_4 : decode cX1_votes 4 = .ok (.istore 6, 2) := by decide +kernel
theorem dX1_votes_6 : decode cX1_votes 6 = .ok (.iload 6, 2) := by decide +kernel
theorem dX1_votes_8 : decode cX1_votes 8 = .ok (.aload_n 0, 1) := by decide +kernel
theorem dX1_votes_9 : decode cX1_votes 9 = .ok (.getfield 28, 3) := by decide +kernel
theorem dX1_votes_12 : decode cX1_votes 12 = .ok (.if_icmp .ge 82, 3) := by decide +kernel
theorem dX1_votes_15 : decode cX1_votes 15 = .ok (.iload 6, 2) := by decide +kernel
theorem dX1_votes_17 : decode cX1_votes 17 = .ok (.iload 4, 2) := by decide +kernel
theorem dX1_votes_19 : decode cX1_votes 19 = .ok (.if_icmp .eq 69, 3) := by decide +kernel
theorem dX1_votes_22 : decode cX1_votes 22 = .ok (.aload_n 0, 1) := by decide +kernel
theorem dX1_votes_23 : decode cX1_votes 23 = .ok (.iload 6, 2) := by decide +kernel
theorem dX1_votes_25 : decode cX1_votes 25 = .ok (.invokevirtual 77, 3) := by decide +kernel
theorem dX1_votes_28 : decode cX1_votes 28 = .ok (.istore 7, 2) := by decide +kernel
theorem dX1_votes_30 : decode cX1_votes 30 = .ok (.iload 7, 2) := by decide +kernel
theorem dX1_votes_32 : decode cX1_votes 32 = .ok (.iload_n 1, 1) := by decide +kernel
theorem dX1_votes_33 : decode cX1_votes 33 = .ok (.iand, 1) := by decide +kernel
theorem dX1_votes_34 : decode cX1_votes 34 = .ok (.invokestatic 84, 3) := by decide +kernel
theorem dX1_votes_37 : decode cX1_votes 37 = .ok (.istore 8, 2) := by decide +kernel
theorem dX1_votes_39 : decode cX1_votes 39 = .ok (.iload 7, 2) := by decide +kernel
theorem dX1_votes_41 : decode cX1_votes 41 = .ok (.iload_n 2, 1) := by decide +kernel
theorem dX1_votes_42 : decode cX1_votes 42 = .ok (.iand, 1) := by decide +kernel
theorem dX1_votes_43 : decode cX1_votes 43 = .ok (.invokestatic 84, 3) := by decide +kernel
theorem dX1_votes_46 : decode cX1_votes 46 = .ok (.istore 9, 2) := by decide +kernel
theorem dX1_votes_48 : decode cX1_votes 48 = .ok (.iload_n 3, 1) := by decide +kernel
theorem dX1_votes_49 : decode cX1_votes 49 = .ok (.iconst 2, 1) := by decide +kernel
theorem dX1_votes_50 : decode cX1_votes 50 = .ok (.iand, 1) := by decide +kernel
theorem dX1_votes_51 : decode cX1_votes 51 = .ok (.ifCond .eq 7, 3) := by decide +kernel
theorem dX1_votes_54 : decode cX1_votes 54 = .ok (.iconst 1, 1) := by decide +kernel
theorem dX1_votes_55 : decode cX1_votes 55 = .ok (.goto 4, 3) := by decide +kernel
theorem dX1_votes_58 : decode cX1_votes 58 = .ok (.iconst 0, 1) := by decide +kernel
theorem dX1_votes_59 : decode cX1_votes 59 = .ok (.istore 10, 2) := by decide +kernel
theorem dX1_votes_61 : decode cX1_votes 61 = .ok (.iload 5, 2) := by decide +kernel
theorem dX1_votes_63 : decode cX1_votes 63 = .ok (.iload 10, 2) := by decide +kernel
theorem dX1_votes_65 : decode cX1_votes 65 = .ok (.ifCond .eq 18, 3) := by decide +kernel
theorem dX1_votes_68 : decode cX1_votes 68 = .ok (.iload 8, 2) := by decide +kernel
theorem dX1_votes_70 : decode cX1_votes 70 = .ok (.iload 9, 2) := by decide +kernel
theorem dX1_votes_72 : decode cX1_votes 72 = .ok (.if_icmp .le 7, 3) := by decide +kernel
theorem dX1_votes_75 : decode cX1_votes 75 = .ok (.iconst 1, 1) := by decide +kernel
theorem dX1_votes_76 : decode cX1_votes 76 = .ok (.goto 9, 3) := by decide +kernel
theorem dX1_votes_79 : decode cX1_votes 79 = .ok (.iconst 0, 1) := by decide +kernel
theorem dX1_votes_80 : decode cX1_votes 80 = .ok (.goto 5, 3) := by decide +kernel
theorem dX1_votes_83 : decode cX1_votes 83 = .ok (.iload 8, 2) := by decide +kernel
theorem dX1_votes_85 : decode cX1_votes 85 = .ok (.iadd, 1) := by decide +kernel
theorem dX1_votes_86 : decode cX1_votes 86 = .ok (.istore 5, 2) := by decide +kernel
theorem dX1_votes_88 : decode cX1_votes 88 = .ok (.iinc 6 1, 3) := by decide +kernel
theorem dX1_votes_91 : decode cX1_votes 91 = .ok (.goto (-85), 3) := by decide +kernel
theorem dX1_votes_94 : decode cX1_votes 94 = .ok (.iload 5, 2) := by decide +kernel
theorem dX1_votes_96 : decode cX1_votes 96 = .ok (.ireturn, 1) := by decide +kernel
theorem dX1_yes_0 : decode cX1_yes 0 = .ok (.aload_n 0, 1) := by decide +kernel
theorem dX1_yes_1 : decode cX1_yes 1 = .ok (.aload_n 0, 1) := by decide +kernel
theorem dX1_yes_2 : decode cX1_yes 2 = .ok (.iload_n 1, 1) := by decide +kernel
theorem dX1_yes_3 : decode cX1_yes 3 = .ok (.iconst 1, 1) := by decide +kernel
theorem dX1_yes_4 : decode cX1_yes 4 = .ok (.invokevirtual 111, 3) := by decide +kernel
theorem dX1_yes_7 : decode cX1_yes 7 = .ok (.aload_n 0, 1) := by decide +kernel
theorem dX1_yes_8 : decode cX1_yes 8 = .ok (.iload_n 1, 1) := by decide +kernel
theorem dX1_yes_9 : decode cX1_yes 9 = .ok (.iconst 0, 1) := by decide +kernel
theorem dX1_yes_10 : decode cX1_yes 10 = .ok (.invokevirtual 111, 3) := by decide +kernel
theorem dX1_yes_13 : decode cX1_yes 13 = .ok (.iload_n 2, 1) := by decide +kernel
theorem dX1_yes_14 : decode cX1_yes 14 = .ok (.iload_n 3, 1) := by decide +kernel
theorem dX1_yes_15 : decode cX1_yes 15 = .ok (.invokevirtual 114, 3) := by decide +kernel
theorem dX1_yes_18 : decode cX1_yes 18 = .ok (.ireturn, 1) := by decide +kernel
theorem dX1_no_0 : decode cX1_no 0 = .ok (.aload_n 0, 1) := by decide +kernel
theorem dX1_no_1 : decode cX1_no 1 = .ok (.aload_n 0, 1) := by decide +kernel
theorem dX1_no_2 : decode cX1_no 2 = .ok (.iload_n 1, 1) := by decide +kernel
theorem dX1_no_3 : decode cX1_no 3 = .ok (.iconst 0, 1) := by decide +kernel
theorem dX1_no_4 : decode cX1_no 4 = .ok (.invokevirtual 111, 3) := by decide +kernel
theorem dX1_no_7 : decode cX1_no 7 = .ok (.aload_n 0, 1) := by decide +kernel
theorem dX1_no_8 : decode cX1_no 8 = .ok (.iload_n 1, 1) := by decide +kernel
theorem dX1_no_9 : decode cX1_no 9 = .ok (.iconst 1, 1) := by decide +kernel
theorem dX1_no_10 : decode cX1_no 10 = .ok (.invokevirtual 111, 3) := by decide +kernel
theorem dX1_no_13 : decode cX1_no 13 = .ok (.iload_n 2, 1) := by decide +kernel
theorem dX1_no_14 : decode cX1_no 14 = .ok (.iload_n 3, 1) := by decide +kernel
theorem dX1_no_15 : decode cX1_no 15 = .ok (.invokevirtual 114, 3) := by decide +kernel
theorem dX1_no_18 : decode cX1_no 18 = .ok (.ireturn, 1) := by decide +kernel
theorem dX1_passes_0 : decode cX1_passes 0 = .ok (.aload_n 0, 1) := by decide +kernel
theorem dX1_passes_1 : decode cX1_passes 1 = .ok (.iload_n 1, 1) := by decide +kernel
theorem dX1_passes_2 : decode cX1_passes 2 = .ok (.iload_n 2, 1) := by decide +kernel
theorem dX1_passes_3 : decode cX1_passes 3 = .ok (.iload_n 3, 1) := by decide +kernel
theorem dX1_passes_4 : decode cX1_passes 4 = .ok (.invokevirtual 118, 3) := by decide +kernel
theorem dX1_passes_7 : decode cX1_passes 7 = .ok (.aload_n 0, 1) := by decide +kernel
theorem dX1_passes_8 : decode cX1_passes 8 = .ok (.iload_n 1, 1) := by decide +kernel
theorem dX1_passes_9 : decode cX1_passes 9 = .ok (.iload_n 2, 1) := by decide +kernel
theorem dX1_passes_10 : decode cX1_passes 10 = .ok (.iload_n 3, 1) := by decide +kernel
theorem dX1_passes_11 : decode cX1_passes 11 = .ok (.invokevirtual 122, 3) := by decide +kernel
theorem dX1_passes_14 : decode cX1_passes 14 = .ok (.if_icmp .le 7, 3) := by decide +kernel
theorem dX1_passes_17 : decode cX1_passes 17 = .ok (.iconst 1, 1) := by decide +kernel
theorem dX1_passes_18 : decode cX1_passes 18 = .ok (.goto 4, 3) := by decide +kernel
theorem dX1_passes_21 : decode cX1_passes 21 = .ok (.iconst 0, 1) := by decide +kernel
theorem dX1_passes_22 : decode cX1_passes 22 = .ok (.ireturn, 1) := by decide +kernel
theorem dX1_passing_0 : decode cX1_passing 0 = .ok (.iconst 0, 1) := by decide +kernel
theorem dX1_passing_1 : decode cX1_passing 1 = .ok (.istore_n 2, 1) := by decide +kernel
theorem dX1_passing_2 : decode cX1_passing 2 = .ok (.iconst 0, 1) := by decide +kernel
theorem dX1_passing_3 : decode cX1_passing 3 = .ok (.istore_n 3, 1) := by decide +kernel
theorem dX1_passing_4 : decode cX1_passing 4 = .ok (.iload_n 3, 1) := by decide +kernel
theorem dX1_passing_5 : decode cX1_passing 5 = .ok (.iconst 5, 1) := by decide +kernel
theorem dX1_passing_6 : decode cX1_passing 6 = .ok (.if_icmp .ge 26, 3) := by decide +kernel
theorem dX1_passing_9 : decode cX1_passing 9 = .ok (.aload_n 0, 1) := by decide +kernel
theorem dX1_passing_10 : decode cX1_passing 10 = .ok (.iload_n 3, 1) := by decide +kernel
theorem dX1_passing_11 : decode cX1_passing 11 = .ok (.iload_n 1, 1) := by decide +kernel
theorem dX1_passing_12 : decode cX1_passing 12 = .ok (.bipush (-9), 2) := by decide +kernel
theorem dX1_passing_14 : decode cX1_passing 14 = .ok (.invokevirtual 125, 3) := by decide +kernel
theorem dX1_passing_17 : decode cX1_passing 17 = .ok (.ifCond .eq 9, 3) := by decide +kernel
theorem dX1_passing_20 : decode cX1_passing 20 = .ok (.iload_n 2, 1) := by decide +kernel
theorem dX1_passing_21 : decode cX1_passing 21 = .ok (.iconst 1, 1) := by decide +kernel
theorem dX1_passing_22 : decode cX1_passing 22 = .ok (.iload_n 3, 1) := by decide +kernel
theorem dX1_passing_23 : decode cX1_passing 23 = .ok (.ishl, 1) := by decide +kernel
theorem dX1_passing_24 : decode cX1_passing 24 = .ok (.ior, 1) := by decide +kernel
theorem dX1_passing_25 : decode cX1_passing 25 = .ok (.istore_n 2, 1) := by decide +kernel
theorem dX1_passing_26 : decode cX1_passing 26 = .ok (.iinc 3 1, 3) := by decide +kernel
theorem dX1_passing_29 : decode cX1_passing 29 = .ok (.goto (-25), 3) := by decide +kernel
theorem dX1_passing_32 : decode cX1_passing 32 = .ok (.iload_n 2, 1) := by decide +kernel
theorem dX1_passing_33 : decode cX1_passing 33 = .ok (.ireturn, 1) := by decide +kernel
theorem dX1_sway_0 : decode cX1_sway 0 = .ok (.aload_n 0, 1) := by decide +kernel
theorem dX1_sway_1 : decode cX1_sway 1 = .ok (.iload_n 1, 1) := by decide +kernel
theorem dX1_sway_2 : decode cX1_sway 2 = .ok (.aload_n 0, 1) := by decide +kernel
theorem dX1_sway_3 : decode cX1_sway 3 = .ok (.getfield 24, 3) := by decide +kernel
theorem dX1_sway_6 : decode cX1_sway 6 = .ok (.getfield 38, 3) := by decide +kernel
theorem dX1_sway_9 : decode cX1_sway 9 = .ok (.bipush (-9), 2) := by decide +kernel
theorem dX1_sway_11 : decode cX1_sway 11 = .ok (.invokevirtual 125, 3) := by decide +kernel
theorem dX1_sway_14 : decode cX1_sway 14 = .ok (.istore_n 2, 1) := by decide +kernel
theorem dX1_sway_15 : decode cX1_sway 15 = .ok (.iconst 0, 1) := by decide +kernel
theorem dX1_sway_16 : decode cX1_sway 16 = .ok (.istore_n 3, 1) := by decide +kernel
theorem dX1_sway_17 : decode cX1_sway 17 = .ok (.iconst 0, 1) := by decide +kernel
theorem dX1_sway_18 : decode cX1_sway 18 = .ok (.istore 4, 2) := by decide +kernel
theorem dX1_sway_20 : decode cX1_sway 20 = .ok (.iload 4, 2) := by decide +kernel
theorem dX1_sway_22 : decode cX1_sway 22 = .ok (.aload_n 0, 1) := by decide +kernel
theorem dX1_sway_23 : decode cX1_sway 23 = .ok (.getfield 28, 3) := by decide +kernel
theorem dX1_sway_26 : decode cX1_sway 26 = .ok (.if_icmp .ge 34, 3) := by decide +kernel
theorem dX1_sway_29 : decode cX1_sway 29 = .ok (.aload_n 0, 1) := by decide +kernel
theorem dX1_sway_30 : decode cX1_sway 30 = .ok (.iload_n 1, 1) := by decide +kernel
theorem dX1_sway_31 : decode cX1_sway 31 = .ok (.aload_n 0, 1) := by decide +kernel
theorem dX1_sway_32 : decode cX1_sway 32 = .ok (.getfield 24, 3) := by decide +kernel
theorem dX1_sway_35 : decode cX1_sway 35 = .ok (.getfield 38, 3) := by decide +kernel
theorem dX1_sway_38 : decode cX1_sway 38 = .ok (.iload 4, 2) := by decide +kernel
theorem dX1_sway_40 : decode cX1_sway 40 = .ok (.invokevirtual 125, 3) := by decide +kernel
theorem dX1_sway_43 : decode cX1_sway 43 = .ok (.iload_n 2, 1) := by decide +kernel
theorem dX1_sway_44 : decode cX1_sway 44 = .ok (.if_icmp .eq 10, 3) := by decide +kernel
theorem dX1_sway_47 : decode cX1_sway 47 = .ok (.iload_n 3, 1) := by decide +kernel
theorem dX1_sway_48 : decode cX1_sway 48 = .ok (.iconst 1, 1) := by decide +kernel
theorem dX1_sway_49 : decode cX1_sway 49 = .ok (.iload 4, 2) := by decide +kernel
theorem dX1_sway_51 : decode cX1_sway 51 = .ok (.ishl, 1) := by decide +kernel
theorem dX1_sway_52 : decode cX1_sway 52 = .ok (.ior, 1) := by decide +kernel
theorem dX1_sway_53 : decode cX1_sway 53 = .ok (.istore_n 3, 1) := by decide +kernel
theorem dX1_sway_54 : decode cX1_sway 54 = .ok (.iinc 4 1, 3) := by decide +kernel
theorem dX1_sway_57 : decode cX1_sway 57 = .ok (.goto (-37), 3) := by decide +kernel
theorem dX1_sway_60 : decode cX1_sway 60 = .ok (.iload_n 3, 1) := by decide +kernel
theorem dX1_sway_61 : decode cX1_sway 61 = .ok (.ireturn, 1) := by decide +kernel
theorem dX2_init_0 : decode cX2_init 0 = .ok (.aload_n 0, 1) := by decide +kernel
theorem dX2_init_1 : decode cX2_init 1 = .ok (.invokespecial 3, 3) := by decide +kernel
theorem dX2_init_4 : decode cX2_init 4 = .ok (.aload_n 0, 1) := by decide +kernel
theorem dX2_init_5 : decode cX2_init 5 = .ok (.bipush 7, 2) := by decide +kernel
theorem dX2_init_7 : decode cX2_init 7 = .ok (.newarray .int, 2) := by decide +kernel
theorem dX2_init_9 : decode cX2_init 9 = .ok (.putfield 9, 3) := by decide +kernel
theorem dX2_init_12 : decode cX2_init 12 = .ok (.aload_n 0, 1) := by decide +kernel
theorem dX2_init_13 : decode cX2_init 13 = .ok (.bipush 7, 2) := by decide +kernel
theorem dX2_init_15 : decode cX2_init 15 = .ok (.newarray .int, 2) := by decide +kernel
theorem dX2_init_17 : decode cX2_init 17 = .ok (.putfield 15, 3) := by decide +kernel
theorem dX2_init_20 : decode cX2_init 20 = .ok (.aload_n 0, 1) := by decide +kernel
theorem dX2_init_21 : decode cX2_init 21 = .ok (.bipush 7, 2) := by decide +kernel
theorem dX2_init_23 : decode cX2_init 23 = .ok (.newarray .int, 2) := by decide +kernel
theorem dX2_init_25 : decode cX2_init 25 = .ok (.putfield 18, 3) := by decide +kernel
theorem dX2_init_28 : decode cX2_init 28 = .ok (.aload_n 0, 1) := by decide +kernel
theorem dX2_init_29 : decode cX2_init 29 = .ok (.iconst 0, 1) := by decide +kernel
theorem dX2_init_30 : decode cX2_init 30 = .ok (.putfield 21, 3) := by decide +kernel
theorem dX2_init_33 : decode cX2_init 33 = .ok (.aload_n 0, 1) := by decide +kernel
theorem dX2_init_34 : decode cX2_init 34 = .ok (.bipush 15, 2) := by decide +kernel
theorem dX2_init_36 : decode cX2_init 36 = .ok (.putfield 25, 3) := by decide +kernel
theorem dX2_init_39 : decode cX2_init 39 = .ok (.aload_n 0, 1) := by decide +kernel
theorem dX2_init_40 : decode cX2_init 40 = .ok (.iconst 0, 1) := by decide +kernel
theorem dX2_init_41 : decode cX2_init 41 = .ok (.putfield 28, 3) := by decide +kernel
theorem dX2_init_44 : decode cX2_init 44 = .ok (.aload_n 0, 1) := by decide +kernel
theorem dX2_init_45 : decode cX2_init 45 = .ok (.iconst 0, 1) := by decide +kernel
theorem dX2_init_46 : decode cX2_init 46 = .ok (.putfield 31, 3) := by decide +kernel
theorem dX2_init_49 : decode cX2_init 49 = .ok (.return_, 1) := by decide +kernel
theorem dX2_take_0 : decode cX2_take 0 = .ok (.aload_n 1, 1) := by decide +kernel
theorem dX2_take_1 : decode cX2_take 1 = .ok (.getfield 9, 3) := by decide +kernel
theorem dX2_take_4 : decode cX2_take 4 = .ok (.iconst 0, 1) := by decide +kernel
theorem dX2_take_5 : decode cX2_take 5 = .ok (.aload_n 0, 1) := by decide +kernel
theorem dX2_take_6 : decode cX2_take 6 = .ok (.getfield 9, 3) := by decide +kernel
theorem dX2_take_9 : decode cX2_take 9 = .ok (.iconst 0, 1) := by decide +kernel
theorem dX2_take_10 : decode cX2_take 10 = .ok (.bipush 7, 2) := by decide +kernel
theorem dX2_take_12 : decode cX2_take 12 = .ok (.invokestatic 34, 3) := by decide +kernel
theorem dX2_take_15 : decode cX2_take 15 = .ok (.aload_n 1, 1) := by decide +kernel
theorem dX2_take_16 : decode cX2_take 16 = .ok (.getfield 15, 3) := by decide +kernel
theorem dX2_take_19 : decode cX2_take 19 = .ok (.iconst 0, 1) := by decide +kernel
theorem dX2_take_20 : decode cX2_take 20 = .ok (.aload_n 0, 1) := by decide +kernel
theorem dX2_take_21 : decode cX2_take 21 = .ok (.getfield 15, 3) := by decide +kernel
theorem dX2_take_24 : decode cX2_take 24 = .ok (.iconst 0, 1) := by decide +kernel
theorem dX2_take_25 : decode cX2_take 25 = .ok (.bipush 7, 2) := by decide +kernel
theorem dX2_take_27 : decode cX2_take 27 = .ok (.invokestatic 34, 3) := by decide +kernel
theorem dX2_take_30 : decode cX2_take 30 = .ok (.aload_n 1, 1) := by decide +kernel
theorem dX2_take_31 : decode cX2_take 31 = .ok (.getfield 18, 3) := by decide +kernel
theorem dX2_take_34 : decode cX2_take 34 = .ok (.iconst 0, 1) := by decide +kernel
theorem dX2_take_35 : decode cX2_take 35 = .ok (.aload_n 0, 1) := by decide +kernel
theorem dX2_take_36 : decode cX2_take 36 = .ok (.getfield 18, 3) := by decide +kernel
theorem dX2_take_39 : decode cX2_take 39 = .ok (.iconst 0, 1) := by decide +kernel
theorem dX2_take_40 : decode cX2_take 40 = .ok (.bipush 7, 2) := by decide +kernel
theorem dX2_take_42 : decode cX2_take 42 = .ok (.invokestatic 34, 3) := by decide +kernel
theorem dX2_take_45 : decode cX2_take 45 = .ok (.aload_n 0, 1) := by decide +kernel
theorem dX2_take_46 : decode cX2_take 46 = .ok (.aload_n 1, 1) := by decide +kernel
theorem dX2_take_47 : decode cX2_take 47 = .ok (.getfield 21, 3) := by decide +kernel
theorem dX2_take_50 : decode cX2_take 50 = .ok (.putfield 21, 3) := by decide +kernel
theorem dX2_take_53 : decode cX2_take 53 = .ok (.aload_n 0, 1) := by decide +kernel
theorem dX2_take_54 : decode cX2_take 54 = .ok (.aload_n 1, 1) := by decide +kernel
theorem dX2_take_55 : decode cX2_take 55 = .ok (.getfield 25, 3) := by decide +kernel
theorem dX2_take_58 : decode cX2_take 58 = .ok (.putfield 25, 3) := by decide +kernel
theorem dX2_take_61 : decode cX2_take 61 = .ok (.aload_n 0, 1) := by decide +kernel
theorem dX2_take_62 : decode cX2_take 62 = .ok (.aload_n 1, 1) := by decide +kernel
theorem dX2_take_63 : decode cX2_take 63 = .ok (.getfield 28, 3) := by decide +kernel
theorem dX2_take_66 : decode cX2_take 66 = .ok (.putfield 28, 3) := by decide +kernel
theorem dX2_take_69 : decode cX2_take 69 = .ok (.aload_n 0, 1) := by decide +kernel
theorem dX2_take_70 : decode cX2_take 70 = .ok (.aload_n 1, 1) := by decide +kernel
theorem dX2_take_71 : decode cX2_take 71 = .ok (.getfield 31, 3) := by decide +kernel
theorem dX2_take_74 : decode cX2_take 74 = .ok (.putfield 31, 3) := by decide +kernel
theorem dX2_take_77 : decode cX2_take 77 = .ok (.return_, 1) := by decide +kernel
theorem dX3_init_0 : decode cX3_init 0 = .ok (.aload_n 0, 1) := by decide +kernel
theorem dX3_init_1 : decode cX3_init 1 = .ok (.invokespecial 3, 3) := by decide +kernel
theorem dX3_init_4 : decode cX3_init 4 = .ok (.aload_n 0, 1) := by decide +kernel
theorem dX3_init_5 : decode cX3_init 5 = .ok (.bipush 10, 2) := by decide +kernel
theorem dX3_init_7 : decode cX3_init 7 = .ok (.anewarray 9, 3) := by decide +kernel
theorem dX3_init_10 : decode cX3_init 10 = .ok (.putfield 11, 3) := by decide +kernel
theorem dX3_init_13 : decode cX3_init 13 = .ok (.aload_n 0, 1) := by decide +kernel
theorem dX3_init_14 : decode cX3_init 14 = .ok (.iconst 0, 1) := by decide +kernel
theorem dX3_init_15 : decode cX3_init 15 = .ok (.putfield 17, 3) := by decide +kernel
theorem dX3_init_18 : decode cX3_init 18 = .ok (.aload_n 0, 1) := by decide +kernel
theorem dX3_init_19 : decode cX3_init 19 = .ok (.iconst 0, 1) := by decide +kernel
theorem dX3_init_20 : decode cX3_init 20 = .ok (.putfield 21, 3) := by decide +kernel
theorem dX3_init_23 : decode cX3_init 23 = .ok (.iconst 0, 1) := by decide +kernel
theorem dX3_init_24 : decode cX3_init 24 = .ok (.istore_n 1, 1) := by decide +kernel
theorem dX3_init_25 : decode cX3_init 25 = .ok (.iload_n 1, 1) := by decide +kernel
theorem dX3_init_26 : decode cX3_init 26 = .ok (.bipush 10, 2) := by decide +kernel
theorem dX3_init_28 : decode cX3_init 28 = .ok (.if_icmp .ge 22, 3) := by decide +kernel
theorem dX3_init_31 : decode cX3_init 31 = .ok (.aload_n 0, 1) := by decide +kernel
theorem dX3_init_32 : decode cX3_init 32 = .ok (.getfield 11, 3) := by decide +kernel
theorem dX3_init_35 : decode cX3_init 35 = .ok (.iload_n 1, 1) := by decide +kernel
theorem dX3_init_36 : decode cX3_init 36 = .ok (.new 9, 3) := by decide +kernel
theorem dX3_init_39 : decode cX3_init 39 = .ok (.dup, 1) := by decide +kernel
theorem dX3_init_40 : decode cX3_init 40 = .ok (.invokespecial 24, 3) := by decide +kernel
theorem dX3_init_43 : decode cX3_init 43 = .ok (.aastore, 1) := by decide +kernel
theorem dX3_init_44 : decode cX3_init 44 = .ok (.iinc 1 1, 3) := by decide +kernel
theorem dX3_init_47 : decode cX3_init 47 = .ok (.goto (-22), 3) := by decide +kernel
theorem dX3_init_50 : decode cX3_init 50 = .ok (.return_, 1) := by decide +kernel
theorem dX3_remember_0 : decode cX3_remember 0 = .ok (.aload_n 0, 1) := by decide +kernel
theorem dX3_remember_1 : decode cX3_remember 1 = .ok (.getfield 11, 3) := by decide +kernel
theorem dX3_remember_4 : decode cX3_remember 4 = .ok (.aload_n 0, 1) := by decide +kernel
theorem dX3_remember_5 : decode cX3_remember 5 = .ok (.getfield 17, 3) := by decide +kernel
theorem dX3_remember_8 : decode cX3_remember 8 = .ok (.aaload, 1) := by decide +kernel
theorem dX3_remember_9 : decode cX3_remember 9 = .ok (.aload_n 1, 1) := by decide +kernel
theorem dX3_remember_10 : decode cX3_remember 10 = .ok (.invokevirtual 25, 3) := by decide +kernel
theorem dX3_remember_13 : decode cX3_remember 13 = .ok (.aload_n 0, 1) := by decide +kernel
theorem dX3_remember_14 : decode cX3_remember 14 = .ok (.aload_n 0, 1) := by decide +kernel
theorem dX3_remember_15 : decode cX3_remember 15 = .ok (.getfield 17, 3) := by decide +kernel
theorem dX3_remember_18 : decode cX3_remember 18 = .ok (.iconst 1, 1) := by decide +kernel
theorem dX3_remember_19 : decode cX3_remember 19 = .ok (.iadd, 1) := by decide +kernel
theorem dX3_remember_20 : decode cX3_remember 20 = .ok (.bipush 10, 2) := by decide +kernel
theorem dX3_remember_22 : decode cX3_remember 22 = .ok (.irem, 1) := by decide +kernel
theorem dX3_remember_23 : decode cX3_remember 23 = .ok (.putfield 17, 3) := by decide +kernel
theorem dX3_remember_26 : decode cX3_remember 26 = .ok (.aload_n 0, 1) := by decide +kernel
theorem dX3_remember_27 : decode cX3_remember 27 = .ok (.bipush 10, 2) := by decide +kernel
theorem dX3_remember_29 : decode cX3_remember 29 = .ok (.aload_n 0, 1) := by decide +kernel
theorem dX3_remember_30 : decode cX3_remember 30 = .ok (.getfield 21, 3) := by decide +kernel
theorem dX3_remember_33 : decode cX3_remember 33 = .ok (.iconst 1, 1) := by decide +kernel
theorem dX3_remember_34 : decode cX3_remember 34 = .ok (.iadd, 1) := by decide +kernel
theorem dX3_remember_35 : decode cX3_remember 35 = .ok (.invokestatic 29, 3) := by decide +kernel
theorem dX3_remember_38 : decode cX3_remember 38 = .ok (.putfield 21, 3) := by decide +kernel
theorem dX3_remember_41 : decode cX3_remember 41 = .ok (.return_, 1) := by decide +kernel
theorem dX3_recall_0 : decode cX3_recall 0 = .ok (.aload_n 0, 1) := by decide +kernel
theorem dX3_recall_1 : decode cX3_recall 1 = .ok (.aload_n 0, 1) := by decide +kernel
theorem dX3_recall_2 : decode cX3_recall 2 = .ok (.getfield 17, 3) := by decide +kernel
theorem dX3_recall_5 : decode cX3_recall 5 = .ok (.bipush 10, 2) := by decide +kernel
theorem dX3_recall_7 : decode cX3_recall 7 = .ok (.iadd, 1) := by decide +kernel
theorem dX3_recall_8 : decode cX3_recall 8 = .ok (.iconst 1, 1) := by decide +kernel
theorem dX3_recall_9 : decode cX3_recall 9 = .ok (.isub, 1) := by decide +kernel
theorem dX3_recall_10 : decode cX3_recall 10 = .ok (.bipush 10, 2) := by decide +kernel
theorem dX3_recall_12 : decode cX3_recall 12 = .ok (.irem, 1) := by decide +kernel
theorem dX3_recall_13 : decode cX3_recall 13 = .ok (.putfield 17, 3) := by decide +kernel
theorem dX3_recall_16 : decode cX3_recall 16 = .ok (.aload_n 1, 1) := by decide +kernel
theorem dX3_recall_17 : decode cX3_recall 17 = .ok (.aload_n 0, 1) := by decide +kernel
theorem dX3_recall_18 : decode cX3_recall 18 = .ok (.getfield 11, 3) := by decide +kernel
theorem dX3_recall_21 : decode cX3_recall 21 = .ok (.aload_n 0, 1) := by decide +kernel
theorem dX3_recall_22 : decode cX3_recall 22 = .ok (.getfield 17, 3) := by decide +kernel
theorem dX3_recall_25 : decode cX3_recall 25 = .ok (.aaload, 1) := by decide +kernel
theorem dX3_recall_26 : decode cX3_recall 26 = .ok (.invokevirtual 25, 3) := by decide +kernel
theorem dX3_recall_29 : decode cX3_recall 29 = .ok (.aload_n 0, 1) := by decide +kernel
theorem dX3_recall_30 : decode cX3_recall 30 = .ok (.dup, 1) := by decide +kernel
theorem dX3_recall_31 : decode cX3_recall 31 = .ok (.getfield 21, 3) := by decide +kernel
theorem dX3_recall_34 : decode cX3_recall 34 = .ok (.iconst 1, 1) := by decide +kernel
theorem dX3_recall_35 : decode cX3_recall 35 = .ok (.isub, 1) := by decide +kernel
theorem dX3_recall_36 : decode cX3_recall 36 = .ok (.putfield 21, 3) := by decide +kernel
theorem dX3_recall_39 : decode cX3_recall 39 = .ok (.return_, 1) := by decide +kernel
theorem dX4_init_0 : decode cX4_init 0 = .ok (.aload_n 0, 1) := by decide +kernel
theorem dX4_init_1 : decode cX4_init 1 = .ok (.invokespecial 3, 3) := by decide +kernel
theorem dX4_init_4 : decode cX4_init 4 = .ok (.aload_n 0, 1) := by decide +kernel
theorem dX4_init_5 : decode cX4_init 5 = .ok (.new 9, 3) := by decide +kernel
theorem dX4_init_8 : decode cX4_init 8 = .ok (.dup, 1) := by decide +kernel
theorem dX4_init_9 : decode cX4_init 9 = .ok (.invokespecial 11, 3) := by decide +kernel
theorem dX4_init_12 : decode cX4_init 12 = .ok (.putfield 12, 3) := by decide +kernel
theorem dX4_init_15 : decode cX4_init 15 = .ok (.aload_n 0, 1) := by decide +kernel
theorem dX4_init_16 : decode cX4_init 16 = .ok (.iconst 0, 1) := by decide +kernel
theorem dX4_init_17 : decode cX4_init 17 = .ok (.putfield 18, 3) := by decide +kernel
theorem dX4_init_20 : decode cX4_init 20 = .ok (.aload_n 0, 1) := by decide +kernel
theorem dX4_init_21 : decode cX4_init 21 = .ok (.iconst 0, 1) := by decide +kernel
theorem dX4_init_22 : decode cX4_init 22 = .ok (.putfield 22, 3) := by decide +kernel
theorem dX4_init_25 : decode cX4_init 25 = .ok (.aload_n 0, 1) := by decide +kernel
theorem dX4_init_26 : decode cX4_init 26 = .ok (.sipush 257, 3) := by decide +kernel
theorem dX4_init_29 : decode cX4_init 29 = .ok (.putfield 25, 3) := by decide +kernel
theorem dX4_init_32 : decode cX4_init 32 = .ok (.aload_n 0, 1) := by decide +kernel
theorem dX4_init_33 : decode cX4_init 33 = .ok (.iconst 0, 1) := by decide +kernel
theorem dX4_init_34 : decode cX4_init 34 = .ok (.putfield 28, 3) := by decide +kernel
theorem dX4_init_37 : decode cX4_init 37 = .ok (.aload_n 0, 1) := by decide +kernel
theorem dX4_init_38 : decode cX4_init 38 = .ok (.iconst 0, 1) := by decide +kernel
theorem dX4_init_39 : decode cX4_init 39 = .ok (.putfield 31, 3) := by decide +kernel
theorem dX4_init_42 : decode cX4_init 42 = .ok (.return_, 1) := by decide +kernel
theorem dX4_read_0 : decode cX4_read 0 = .ok (.aload_n 0, 1) := by decide +kernel
theorem dX4_read_1 : decode cX4_read 1 = .ok (.getfield 12, 3) := by decide +kernel
theorem dX4_read_4 : decode cX4_read 4 = .ok (.invokevirtual 35, 3) := by decide +kernel
theorem dX4_read_7 : decode cX4_read 7 = .ok (.aload_n 0, 1) := by decide +kernel
theorem dX4_read_8 : decode cX4_read 8 = .ok (.iconst 0, 1) := by decide +kernel
theorem dX4_read_9 : decode cX4_read 9 = .ok (.putfield 18, 3) := by decide +kernel
theorem dX4_read_12 : decode cX4_read 12 = .ok (.aload_n 0, 1) := by decide +kernel
theorem dX4_read_13 : decode cX4_read 13 = .ok (.iconst 0, 1) := by decide +kernel
theorem dX4_read_14 : decode cX4_read 14 = .ok (.putfield 31, 3) := by decide +kernel
theorem dX4_read_17 : decode cX4_read 17 = .ok (.iconst 0, 1) := by decide +kernel
theorem dX4_read_18 : decode cX4_read 18 = .ok (.istore_n 2, 1) := by decide +kernel
theorem dX4_read_19 : decode cX4_read 19 = .ok (.aload_n 0, 1) := by decide +kernel
theorem dX4_read_20 : decode cX4_read 20 = .ok (.aload_n 1, 1) := by decide +kernel
theorem dX4_read_21 : decode cX4_read 21 = .ok (.invokevirtual 38, 3) := by decide +kernel
theorem dX4_read_24 : decode cX4_read 24 = .ok (.aload_n 0, 1) := by decide +kernel
theorem dX4_read_25 : decode cX4_read 25 = .ok (.getfield 25, 3) := by decide +kernel
theorem dX4_read_28 : decode cX4_read 28 = .ok (.sipush 257, 3) := by decide +kernel
theorem dX4_read_31 : decode cX4_read 31 = .ok (.if_icmp .eq 38, 3) := by decide +kernel
theorem dX4_read_34 : decode cX4_read 34 = .ok (.iload_n 2, 1) := by decide +kernel
theorem dX4_read_35 : decode cX4_read 35 = .ok (.sipush 200, 3) := by decide +kernel
theorem dX4_read_38 : decode cX4_read 38 = .ok (.if_icmp .ge 31, 3) := by decide +kernel
theorem dX4_read_41 : decode cX4_read 41 = .ok (.aload_n 0, 1) := by decide +kernel
theorem dX4_read_42 : decode cX4_read 42 = .ok (.aload_n 1, 1) := by decide +kernel
theorem dX4_read_43 : decode cX4_read 43 = .ok (.iload_n 2, 1) := by decide +kernel
theorem dX4_read_44 : decode cX4_read 44 = .ok (.invokevirtual 42, 3) := by decide +kernel
theorem dX4_read_47 : decode cX4_read 47 = .ok (.ifCond .ne 11, 3) := by decide +kernel
theorem dX4_read_50 : decode cX4_read 50 = .ok (.bipush (-10), 2) := by decide +kernel
theorem dX4_read_52 : decode cX4_read 52 = .ok (.aload_n 0, 1) := by decide +kernel
theorem dX4_read_53 : decode cX4_read 53 = .ok (.getfield 22, 3) := by decide +kernel
theorem dX4_read_56 : decode cX4_read 56 = .ok (.isub, 1) := by decide +kernel
theorem dX4_read_57 : decode cX4_read 57 = .ok (.ireturn, 1) := by decide +kernel
theorem dX4_read_58 : decode cX4_read 58 = .ok (.iinc 2 1, 3) := by decide +kernel
theorem dX4_read_61 : decode cX4_read 61 = .ok (.aload_n 0, 1) := by decide +kernel
theorem dX4_read_62 : decode cX4_read 62 = .ok (.aload_n 1, 1) := by decide +kernel
theorem dX4_read_63 : decode cX4_read 63 = .ok (.invokevirtual 38, 3) := by decide +kernel
theorem dX4_read_66 : decode cX4_read 66 = .ok (.goto (-42), 3) := by decide +kernel
theorem dX4_read_69 : decode cX4_read 69 = .ok (.iload_n 2, 1) := by decide +kernel
theorem dX4_read_70 : decode cX4_read 70 = .ok (.ireturn, 1) := by decide +kernel
theorem dX4_readItem_0 : decode cX4_readItem 0 = .ok (.aload_n 0, 1) := by decide +kernel
theorem dX4_readItem_1 : decode cX4_readItem 1 = .ok (.getfield 25, 3) := by decide +kernel
theorem dX4_readItem_4 : decode cX4_readItem 4 = .ok (.tableswitch 151 108 113 #[122, 151, 40, 151, 66, 100], 40) := by decide +kernel
theorem dX4_readItem_44 : decode cX4_readItem 44 = .ok (.iload_n 2, 1) := by decide +kernel
theorem dX4_readItem_45 : decode cX4_readItem 45 = .ok (.ifCond .ne 23, 3) := by decide +kernel
theorem dX4_readItem_48 : decode cX4_readItem 48 = .ok (.aload_n 0, 1) := by decide +kernel
theorem dX4_readItem_49 : decode cX4_readItem 49 = .ok (.aload_n 1, 1) := by decide +kernel
theorem dX4_readItem_50 : decode cX4_readItem 50 = .ok (.invokevirtual 46, 3) := by decide +kernel
theorem dX4_readItem_53 : decode cX4_readItem 53 = .ok (.ifCond .eq 15, 3) := by decide +kernel
theorem dX4_readItem_56 : decode cX4_readItem 56 = .ok (.aload_n 0, 1) := by decide +kernel
theorem dX4_readItem_57 : decode cX4_readItem 57 = .ok (.aload_n 1, 1) := by decide +kernel
theorem dX4_readItem_58 : decode cX4_readItem 58 = .ok (.invokevirtual 50, 3) := by decide +kernel
theorem dX4_readItem_61 : decode cX4_readItem 61 = .ok (.ifCond .eq 7, 3) := by decide +kernel
theorem dX4_readItem_64 : decode cX4_readItem 64 = .ok (.iconst 1, 1) := by decide +kernel
theorem dX4_readItem_65 : decode cX4_readItem 65 = .ok (.goto 4, 3) := by decide +kernel
theorem dX4_readItem_68 : decode cX4_readItem 68 = .ok (.iconst 0, 1) := by decide +kernel
theorem dX4_readItem_69 : decode cX4_readItem 69 = .ok (.ireturn, 1) := by decide +kernel
theorem dX4_readItem_70 : decode cX4_readItem 70 = .ok (.aload_n 0, 1) := by decide +kernel
theorem dX4_readItem_71 : decode cX4_readItem 71 = .ok (.getfield 12, 3) := by decide +kernel
theorem dX4_readItem_74 : decode cX4_readItem 74 = .ok (.getfield 53, 3) := by decide +kernel
theorem dX4_readItem_77 : decode cX4_readItem 77 = .ok (.bipush 7, 2) := by decide +kernel
theorem dX4_readItem_79 : decode cX4_readItem 79 = .ok (.if_icmp .ge 23, 3) := by decide +kernel
theorem dX4_readItem_82 : decode cX4_readItem 82 = .ok (.aload_n 0, 1) := by decide +kernel
theorem dX4_readItem_83 : decode cX4_readItem 83 = .ok (.aload_n 1, 1) := by decide +kernel
theorem dX4_readItem_84 : decode cX4_readItem 84 = .ok (.invokevirtual 56, 3) := by decide +kernel
theorem dX4_readItem_87 : decode cX4_readItem 87 = .ok (.ifCond .eq 15, 3) := by decide +kernel
theorem dX4_readItem_90 : decode cX4_readItem 90 = .ok (.aload_n 0, 1) := by decide +kernel
theorem dX4_readItem_91 : decode cX4_readItem 91 = .ok (.aload_n 1, 1) := by decide +kernel
theorem dX4_readItem_92 : decode cX4_readItem 92 = .ok (.invokevirtual 50, 3) := by decide +kernel
theorem dX4_readItem_95 : decode cX4_readItem 95 = .ok (.ifCond .eq 7, 3) := by decide +kernel
theorem dX4_readItem_98 : decode cX4_readItem 98 = .ok (.iconst 1, 1) := by decide +kernel
theorem dX4_readItem_99 : decode cX4_readItem 99 = .ok (.goto 4, 3) := by decide +kernel
theorem dX4_readItem_102 : decode cX4_readItem 102 = .ok (.iconst 0, 1) := by decide +kernel
theorem dX4_readItem_103 : decode cX4_readItem 103 = .ok (.ireturn, 1) := by decide +kernel
theorem dX4_readItem_104 : decode cX4_readItem 104 = .ok (.aload_n 0, 1) := by decide +kernel
theorem dX4_readItem_105 : decode cX4_readItem 105 = .ok (.aload_n 1, 1) := by decide +kernel
theorem dX4_readItem_106 : decode cX4_readItem 106 = .ok (.invokevirtual 59, 3) := by decide +kernel
theorem dX4_readItem_109 : decode cX4_readItem 109 = .ok (.ifCond .eq 15, 3) := by decide +kernel
theorem dX4_readItem_112 : decode cX4_readItem 112 = .ok (.aload_n 0, 1) := by decide +kernel
theorem dX4_readItem_113 : decode cX4_readItem 113 = .ok (.aload_n 1, 1) := by decide +kernel
theorem dX4_readItem_114 : decode cX4_readItem 114 = .ok (.invokevirtual 50, 3) := by decide +kernel
theorem dX4_readItem_117 : decode cX4_readItem 117 = .ok (.ifCond .eq 7, 3) := by decide +kernel
theorem dX4_readItem_120 : decode cX4_readItem 120 = .ok (.iconst 1, 1) := by decide +kernel
theorem dX4_readItem_121 : decode cX4_readItem 121 = .ok (.goto 4, 3) := by decide +kernel
theorem dX4_readItem_124 : decode cX4_readItem 124 = .ok (.iconst 0, 1) := by decide +kernel
theorem dX4_readItem_125 : decode cX4_readItem 125 = .ok (.ireturn, 1) := by decide +kernel
theorem dX4_readItem_126 : decode cX4_readItem 126 = .ok (.aload_n 0, 1) := by decide +kernel
theorem dX4_readItem_127 : decode cX4_readItem 127 = .ok (.getfield 31, 3) := by decide +kernel
theorem dX4_readItem_130 : decode cX4_readItem 130 = .ok (.ifCond .ne 23, 3) := by decide +kernel
theorem dX4_readItem_133 : decode cX4_readItem 133 = .ok (.aload_n 0, 1) := by decide +kernel
theorem dX4_readItem_134 : decode cX4_readItem 134 = .ok (.aload_n 1, 1) := by decide +kernel
theorem dX4_readItem_135 : decode cX4_readItem 135 = .ok (.invokevirtual 62, 3) := by decide +kernel
theorem dX4_readItem_138 : decode cX4_readItem 138 = .ok (.ifCond .eq 15, 3) := by decide +kernel
theorem dX4_readItem_141 : decode cX4_readItem 141 = .ok (.aload_n 0, 1) := by decide +kernel
theorem dX4_readItem_142 : decode cX4_readItem 142 = .ok (.aload_n 1, 1) := by decide +kernel
theorem dX4_readItem_143 : decode cX4_readItem 143 = .ok (.invokevirtual 50, 3) := by decide +kernel
theorem dX4_readItem_146 : decode cX4_readItem 146 = .ok (.ifCond .eq 7, 3) := by decide +kernel
theorem dX4_readItem_149 : decode cX4_readItem 149 = .ok (.iconst 1, 1) := by decide +kernel
theorem dX4_readItem_150 : decode cX4_readItem 150 = .ok (.goto 4, 3) := by decide +kernel
theorem dX4_readItem_153 : decode cX4_readItem 153 = .ok (.iconst 0, 1) := by decide +kernel
theorem dX4_readItem_154 : decode cX4_readItem 154 = .ok (.ireturn, 1) := by decide +kernel
theorem dX4_readItem_155 : decode cX4_readItem 155 = .ok (.iconst 0, 1) := by decide +kernel
theorem dX4_readItem_156 : decode cX4_readItem 156 = .ok (.ireturn, 1) := by decide +kernel
theorem dX4_readNames_0 : decode cX4_readNames 0 = .ok (.aload_n 0, 1) := by decide +kernel
theorem dX4_readNames_1 : decode cX4_readNames 1 = .ok (.aload_n 1, 1) := by decide +kernel
theorem dX4_readNames_2 : decode cX4_readNames 2 = .ok (.iconst 1, 1) := by decide +kernel
theorem dX4_readNames_3 : decode cX4_readNames 3 = .ok (.iconst 4, 1) := by decide +kernel
theorem dX4_readNames_4 : decode cX4_readNames 4 = .ok (.invokevirtual 65, 3) := by decide +kernel
theorem dX4_readNames_7 : decode cX4_readNames 7 = .ok (.ifCond .ne 5, 3) := by decide +kernel
theorem dX4_readNames_10 : decode cX4_readNames 10 = .ok (.iconst 0, 1) := by decide +kernel
theorem dX4_readNames_11 : decode cX4_readNames 11 = .ok (.ireturn, 1) := by decide +kernel
theorem dX4_readNames_12 : decode cX4_readNames 12 = .ok (.aload_n 0, 1) := by decide +kernel
theorem dX4_readNames_13 : decode cX4_readNames 13 = .ok (.getfield 12, 3) := by decide +kernel
theorem dX4_readNames_16 : decode cX4_readNames 16 = .ok (.aload_n 0, 1) := by decide +kernel
theorem dX4_readNames_17 : decode cX4_readNames 17 = .ok (.getfield 28, 3) := by decide +kernel
theorem dX4_readNames_20 : decode cX4_readNames 20 = .ok (.putfield 69, 3) := by decide +kernel
theorem dX4_readNames_23 : decode cX4_readNames 23 = .ok (.iconst 1, 1) := by decide +kernel
theorem dX4_readNames_24 : decode cX4_readNames 24 = .ok (.ireturn, 1) := by decide +kernel
theorem dX4_readPerson_0 : decode cX4_readPerson 0 = .ok (.aload_n 0, 1) := by decide +kernel
theorem dX4_readPerson_1 : decode cX4_readPerson 1 = .ok (.aload_n 1, 1) := by decide +kernel
theorem dX4_readPerson_2 : decode cX4_readPerson 2 = .ok (.iconst 0, 1) := by decide +kernel
theorem dX4_readPerson_3 : decode cX4_readPerson 3 = .ok (.aload_n 0, 1) := by decide +kernel
theorem dX4_readPerson_4 : decode cX4_readPerson 4 = .ok (.getfield 12, 3) := by decide +kernel
theorem dX4_readPerson_7 : decode cX4_readPerson 7 = .ok (.getfield 69, 3) := by decide +kernel
theorem dX4_readPerson_10 : decode cX4_readPerson 10 = .ok (.iconst 1, 1) := by decide +kernel
theorem dX4_readPerson_11 : decode cX4_readPerson 11 = .ok (.isub, 1) := by decide +kernel
theorem dX4_readPerson_12 : decode cX4_readPerson 12 = .ok (.invokevirtual 65, 3) := by decide +kernel
theorem dX4_readPerson_15 : decode cX4_readPerson 15 = .ok (.ifCond .ne 5, 3) := by decide +kernel
theorem dX4_readPerson_18 : decode cX4_readPerson 18 = .ok (.iconst 0, 1) := by decide +kernel
theorem dX4_readPerson_19 : decode cX4_readPerson 19 = .ok (.ireturn, 1) := by decide +kernel
theorem dX4_readPerson_20 : decode cX4_readPerson 20 = .ok (.aload_n 0, 1) := by decide +kernel
theorem dX4_readPerson_21 : decode cX4_readPerson 21 = .ok (.getfield 28, 3) := by decide +kernel
theorem dX4_readPerson_24 : decode cX4_readPerson 24 = .ok (.istore_n 2, 1) := by decide +kernel
theorem dX4_readPerson_25 : decode cX4_readPerson 25 = .ok (.aload_n 0, 1) := by decide +kernel
theorem dX4_readPerson_26 : decode cX4_readPerson 26 = .ok (.aload_n 1, 1) := by decide +kernel
theorem dX4_readPerson_27 : decode cX4_readPerson 27 = .ok (.iconst 0, 1) := by decide +kernel
theorem dX4_readPerson_28 : decode cX4_readPerson 28 = .ok (.bipush 99, 2) := by decide +kernel
theorem dX4_readPerson_30 : decode cX4_readPerson 30 = .ok (.invokevirtual 65, 3) := by decide +kernel
theorem dX4_readPerson_33 : decode cX4_readPerson 33 = .ok (.ifCond .ne 5, 3) := by decide +kernel
theorem dX4_readPerson_36 : decode cX4_readPerson 36 = .ok (.iconst 0, 1) := by decide +kernel
theorem dX4_readPerson_37 : decode cX4_readPerson 37 = .ok (.ireturn, 1) := by decide +kernel
theorem dX4_readPerson_38 : decode cX4_readPerson 38 = .ok (.aload_n 0, 1) := by decide +kernel
theorem dX4_readPerson_39 : decode cX4_readPerson 39 = .ok (.getfield 28, 3) := by decide +kernel
theorem dX4_readPerson_42 : decode cX4_readPerson 42 = .ok (.istore_n 3, 1) := by decide +kernel
theorem dX4_readPerson_43 : decode cX4_readPerson 43 = .ok (.aload_n 0, 1) := by decide +kernel
theorem dX4_readPerson_44 : decode cX4_readPerson 44 = .ok (.aload_n 1, 1) := by decide +kernel
theorem dX4_readPerson_45 : decode cX4_readPerson 45 = .ok (.iconst 0, 1) := by decide +kernel
theorem dX4_readPerson_46 : decode cX4_readPerson 46 = .ok (.bipush 31, 2) := by decide +kernel
theorem dX4_readPerson_48 : decode cX4_readPerson 48 = .ok (.invokevirtual 65, 3) := by decide +kernel
theorem dX4_readPerson_51 : decode cX4_readPerson 51 = .ok (.ifCond .ne 5, 3) := by decide +kernel
theorem dX4_readPerson_54 : decode cX4_readPerson 54 = .ok (.iconst 0, 1) := by decide +kernel
theorem dX4_readPerson_55 : decode cX4_readPerson 55 = .ok (.ireturn, 1) := by decide +kernel
theorem dX4_readPerson_56 : decode cX4_readPerson 56 = .ok (.aload_n 0, 1) := by decide +kernel
theorem dX4_readPerson_57 : decode cX4_readPerson 57 = .ok (.getfield 12, 3) := by decide +kernel
theorem dX4_readPerson_60 : decode cX4_readPerson 60 = .ok (.iload_n 2, 1) := by decide +kernel
theorem dX4_readPerson_61 : decode cX4_readPerson 61 = .ok (.iload_n 3, 1) := by decide +kernel
theorem dX4_readPerson_62 : decode cX4_readPerson 62 = .ok (.aload_n 0, 1) := by decide +kernel
theorem dX4_readPerson_63 : decode cX4_readPerson 63 = .ok (.getfield 28, 3) := by decide +kernel
theorem dX4_readPerson_66 : decode cX4_readPerson 66 = .ok (.invokevirtual 72, 3) := by decide +kernel
theorem dX4_readPerson_69 : decode cX4_readPerson 69 = .ok (.iconst 1, 1) := by decide +kernel
theorem dX4_readPerson_70 : decode cX4_readPerson 70 = .ok (.ireturn, 1) := by decide +kernel
theorem dX4_readQuarrel_0 : decode cX4_readQuarrel 0 = .ok (.aload_n 0, 1) := by decide +kernel
theorem dX4_readQuarrel_1 : decode cX4_readQuarrel 1 = .ok (.aload_n 1, 1) := by decide +kernel
theorem dX4_readQuarrel_2 : decode cX4_readQuarrel 2 = .ok (.iconst 0, 1) := by decide +kernel
theorem dX4_readQuarrel_3 : decode cX4_readQuarrel 3 = .ok (.aload_n 0, 1) := by decide +kernel
theorem dX4_readQuarrel_4 : decode cX4_readQuarrel 4 = .ok (.getfield 12, 3) := by decide +kernel
theorem dX4_readQuarrel_7 : decode cX4_readQuarrel 7 = .ok (.getfield 53, 3) := by decide +kernel
theorem dX4_readQuarrel_10 : decode cX4_readQuarrel 10 = .ok (.iconst 1, 1) := by decide +kernel
theorem dX4_readQuarrel_11 : decode cX4_readQuarrel 11 = .ok (.isub, 1) := by decide +kernel
theorem dX4_readQuarrel_12 : decode cX4_readQuarrel 12 = .ok (.invokevirtual 65, 3) := by decide +kernel
theorem dX4_readQuarrel_15 : decode cX4_readQuarrel 15 = .ok (.ifCond .ne 5, 3) := by decide +kernel
theorem dX4_readQuarrel_18 : decode cX4_readQuarrel 18 = .ok (.iconst 0, 1) := by decide +kernel
theorem dX4_readQuarrel_19 : decode cX4_readQuarrel 19 = .ok (.ireturn, 1) := by decide +kernel
theorem dX4_readQuarrel_20 : decode cX4_readQuarrel 20 = .ok (.aload_n 0, 1) := by decide +kernel
theorem dX4_readQuarrel_21 : decode cX4_readQuarrel 21 = .ok (.getfield 28, 3) := by decide +kernel
theorem dX4_readQuarrel_24 : decode cX4_readQuarrel 24 = .ok (.istore_n 2, 1) := by decide +kernel
theorem dX4_readQuarrel_25 : decode cX4_readQuarrel 25 = .ok (.aload_n 0, 1) := by decide +kernel
theorem dX4_readQuarrel_26 : decode cX4_readQuarrel 26 = .ok (.aload_n 1, 1) := by decide +kernel
theorem dX4_readQuarrel_27 : decode cX4_readQuarrel 27 = .ok (.iconst 0, 1) := by decide +kernel
theorem dX4_readQuarrel_28 : decode cX4_readQuarrel 28 = .ok (.aload_n 0, 1) := by decide +kernel
theorem dX4_readQuarrel_29 : decode cX4_readQuarrel 29 = .ok (.getfield 12, 3) := by decide +kernel
theorem dX4_readQuarrel_32 : decode cX4_readQuarrel 32 = .ok (.getfield 53, 3) := by decide +kernel
theorem dX4_readQuarrel_35 : decode cX4_readQuarrel 35 = .ok (.iconst 1, 1) := by decide +kernel
theorem dX4_readQuarrel_36 : decode cX4_readQuarrel 36 = .ok (.isub, 1) := by decide +kernel
theorem dX4_readQuarrel_37 : decode cX4_readQuarrel 37 = .ok (.invokevirtual 65, 3) := by decide +kernel
theorem dX4_readQuarrel_40 : decode cX4_readQuarrel 40 = .ok (.ifCond .eq 11, 3) := by decide +kernel
theorem dX4_readQuarrel_43 : decode cX4_readQuarrel 43 = .ok (.aload_n 0, 1) := by decide +kernel
theorem dX4_readQuarrel_44 : decode cX4_readQuarrel 44 = .ok (.getfield 28, 3) := by decide +kernel
theorem dX4_readQuarrel_47 : decode cX4_readQuarrel 47 = .ok (.iload_n 2, 1) := by decide +kernel
theorem dX4_readQuarrel_48 : decode cX4_readQuarrel 48 = .ok (.if_icmp .ne 5, 3) := by decide +kernel
theorem dX4_readQuarrel_51 : decode cX4_readQuarrel 51 = .ok (.iconst 0, 1) := by decide +kernel
theorem dX4_readQuarrel_52 : decode cX4_readQuarrel 52 = .ok (.ireturn, 1) := by decide +kernel
theorem dX4_readQuarrel_53 : decode cX4_readQuarrel 53 = .ok (.aload_n 0, 1) := by decide +kernel
theorem dX4_readQuarrel_54 : decode cX4_readQuarrel 54 = .ok (.getfield 12, 3) := by decide +kernel
theorem dX4_readQuarrel_57 : decode cX4_readQuarrel 57 = .ok (.getfield 76, 3) := by decide +kernel
theorem dX4_readQuarrel_60 : decode cX4_readQuarrel 60 = .ok (.iload_n 2, 1) := by decide +kernel
theorem dX4_readQuarrel_61 : decode cX4_readQuarrel 61 = .ok (.dup2, 1) := by decide +kernel
theorem dX4_readQuarrel_62 : decode cX4_readQuarrel 62 = .ok (.iaload, 1) := by decide +kernel
theorem dX4_readQuarrel_63 : decode cX4_readQuarrel 63 = .ok (.iconst 1, 1) := by decide +kernel
theorem dX4_readQuarrel_64 : decode cX4_readQuarrel 64 = .ok (.aload_n 0, 1) := by decide +kernel
theorem dX4_readQuarrel_65 : decode cX4_readQuarrel 65 = .ok (.getfield 28, 3) := by decide +kernel
theorem dX4_readQuarrel_68 : decode cX4_readQuarrel 68 = .ok (.ishl, 1) := by decide +kernel
theorem dX4_readQuarrel_69 : decode cX4_readQuarrel 69 = .ok (.ior, 1) := by decide +kernel
theorem dX4_readQuarrel_70 : decode cX4_readQuarrel 70 = .ok (.iastore, 1) := by decide +kernel
theorem dX4_readQuarrel_71 : decode cX4_readQuarrel 71 = .ok (.aload_n 0, 1) := by decide +kernel
theorem dX4_readQuarrel_72 : decode cX4_readQuarrel 72 = .ok (.getfield 12, 3) := by decide +kernel
theorem dX4_readQuarrel_75 : decode cX4_readQuarrel 75 = .ok (.getfield 76, 3) := by decide +kernel
theorem dX4_readQuarrel_78 : decode cX4_readQuarrel 78 = .ok (.aload_n 0, 1) := by decide +kernel
theorem dX4_readQuarrel_79 : decode cX4_readQuarrel 79 = .ok (.getfield 28, 3) := by decide +kernel
theorem dX4_readQuarrel_82 : decode cX4_readQuarrel 82 = .ok (.dup2, 1) := by decide +kernel
theorem dX4_readQuarrel_83 : decode cX4_readQuarrel 83 = .ok (.iaload, 1) := by decide +kernel
theorem dX4_readQuarrel_84 : decode cX4_readQuarrel 84 = .ok (.iconst 1, 1) := by decide +kernel
theorem dX4_readQuarrel_85 : decode cX4_readQuarrel 85 = .ok (.iload_n 2, 1) := by decide +kernel
theorem dX4_readQuarrel_86 : decode cX4_readQuarrel 86 = .ok (.ishl, 1) := by decide +kernel
theorem dX4_readQuarrel_87 : decode cX4_readQuarrel 87 = .ok (.ior, 1) := by decide +kernel
theorem dX4_readQuarrel_88 : decode cX4_readQuarrel 88 = .ok (.iastore, 1) := by decide +kernel
theorem dX4_readQuarrel_89 : decode cX4_readQuarrel 89 = .ok (.iconst 1, 1) := by decide +kernel
theorem dX4_readQuarrel_90 : decode cX4_readQuarrel 90 = .ok (.ireturn, 1) := by decide +kernel
theorem dX4_readLaws_0 : decode cX4_readLaws 0 = .ok (.aload_n 0, 1) := by decide +kernel
theorem dX4_readLaws_1 : decode cX4_readLaws 1 = .ok (.aload_n 1, 1) := by decide +kernel
theorem dX4_readLaws_2 : decode cX4_readLaws 2 = .ok (.iconst 0, 1) := by decide +kernel
theorem dX4_readLaws_3 : decode cX4_readLaws 3 = .ok (.bipush 15, 2) := by decide +kernel
theorem dX4_readLaws_5 : decode cX4_readLaws 5 = .ok (.invokevirtual 65, 3) := by decide +kernel
theorem dX4_readLaws_8 : decode cX4_readLaws 8 = .ok (.ifCond .ne 5, 3) := by decide +kernel
theorem dX4_readLaws_11 : decode cX4_readLaws 11 = .ok (.iconst 0, 1) := by decide +kernel
theorem dX4_readLaws_12 : decode cX4_readLaws 12 = .ok (.ireturn, 1) := by decide +kernel
theorem dX4_readLaws_13 : decode cX4_readLaws 13 = .ok (.aload_n 0, 1) := by decide +kernel
theorem dX4_readLaws_14 : decode cX4_readLaws 14 = .ok (.getfield 12, 3) := by decide +kernel
theorem dX4_readLaws_17 : decode cX4_readLaws 17 = .ok (.getfield 80, 3) := by decide +kernel
theorem dX4_readLaws_20 : decode cX4_readLaws 20 = .ok (.aload_n 0, 1) := by decide +kernel
theorem dX4_readLaws_21 : decode cX4_readLaws 21 = .ok (.getfield 28, 3) := by decide +kernel
theorem dX4_readLaws_24 : decode cX4_readLaws 24 = .ok (.putfield 84, 3) := by decide +kernel
theorem dX4_readLaws_27 : decode cX4_readLaws 27 = .ok (.aload_n 0, 1) := by decide +kernel
theorem dX4_readLaws_28 : decode cX4_readLaws 28 = .ok (.iconst 1, 1) := by decide +kernel
theorem dX4_readLaws_29 : decode cX4_readLaws 29 = .ok (.putfield 31, 3) := by decide +kernel
theorem dX4_readLaws_32 : decode cX4_readLaws 32 = .ok (.iconst 1, 1) := by decide +kernel
theorem dX4_readLaws_33 : decode cX4_readLaws 33 = .ok (.ireturn, 1) := by decide +kernel
theorem dX4_readNumber_0 : decode cX4_readNumber 0 = .ok (.aload_n 0, 1) := by decide +kernel
theorem dX4_readNumber_1 : decode cX4_readNumber 1 = .ok (.aload_n 1, 1) := by decide +kernel
theorem dX4_readNumber_2 : decode cX4_readNumber 2 = .ok (.invokevirtual 38, 3) := by decide +kernel
theorem dX4_readNumber_5 : decode cX4_readNumber 5 = .ok (.aload_n 0, 1) := by decide +kernel
theorem dX4_readNumber_6 : decode cX4_readNumber 6 = .ok (.getfield 25, 3) := by decide +kernel
theorem dX4_readNumber_9 : decode cX4_readNumber 9 = .ok (.sipush 256, 3) := by decide +kernel
theorem dX4_readNumber_12 : decode cX4_readNumber 12 = .ok (.if_icmp .ne 19, 3) := by decide +kernel
theorem dX4_readNumber_15 : decode cX4_readNumber 15 = .ok (.aload_n 0, 1) := by decide +kernel
theorem dX4_readNumber_16 : decode cX4_readNumber 16 = .ok (.getfield 28, 3) := by decide +kernel
theorem dX4_readNumber_19 : decode cX4_readNumber 19 = .ok (.iload_n 2, 1) := by decide +kernel
theorem dX4_readNumber_20 : decode cX4_readNumber 20 = .ok (.iload_n 3, 1) := by decide +kernel
theorem dX4_readNumber_21 : decode cX4_readNumber 21 = .ok (.invokestatic 89, 3) := by decide +kernel
theorem dX4_readNumber_24 : decode cX4_readNumber 24 = .ok (.ifCond .eq 7, 3) := by decide +kernel
theorem dX4_readNumber_27 : decode cX4_readNumber 27 = .ok (.iconst 1, 1) := by decide +kernel
theorem dX4_readNumber_28 : decode cX4_readNumber 28 = .ok (.goto 4, 3) := by decide +kernel
theorem dX4_readNumber_31 : decode cX4_readNumber 31 = .ok (.iconst 0, 1) := by decide +kernel
theorem dX4_readNumber_32 : decode cX4_readNumber 32 = .ok (.ireturn, 1) := by decide +kernel
theorem dX4_isEnded_0 : decode cX4_isEnded 0 = .ok (.aload_n 0, 1) := by decide +kernel
theorem dX4_isEnded_1 : decode cX4_isEnded 1 = .ok (.aload_n 1, 1) := by decide +kernel
theorem dX4_isEnded_2 : decode cX4_isEnded 2 = .ok (.invokevirtual 38, 3) := by decide +kernel
theorem dX4_isEnded_5 : decode cX4_isEnded 5 = .ok (.aload_n 0, 1) := by decide +kernel
theorem dX4_isEnded_6 : decode cX4_isEnded 6 = .ok (.getfield 25, 3) := by decide +kernel
theorem dX4_isEnded_9 : decode cX4_isEnded 9 = .ok (.bipush 59, 2) := by decide +kernel
theorem dX4_isEnded_11 : decode cX4_isEnded 11 = .ok (.if_icmp .ne 7, 3) := by decide +kernel
theorem dX4_isEnded_14 : decode cX4_isEnded 14 = .ok (.iconst 1, 1) := by decide +kernel
theorem dX4_isEnded_15 : decode cX4_isEnded 15 = .ok (.goto 4, 3) := by decide +kernel
theorem dX4_isEnded_18 : decode cX4_isEnded 18 = .ok (.iconst 0, 1) := by decide +kernel
theorem dX4_isEnded_19 : decode cX4_isEnded 19 = .ok (.ireturn, 1) := by decide +kernel
theorem dX4_nextToken_0 : decode cX4_nextToken 0 = .ok (.aload_n 0, 1) := by decide +kernel
theorem dX4_nextToken_1 : decode cX4_nextToken 1 = .ok (.getfield 18, 3) := by decide +kernel
theorem dX4_nextToken_4 : decode cX4_nextToken 4 = .ok (.aload_n 1, 1) := by decide +kernel
theorem dX4_nextToken_5 : decode cX4_nextToken 5 = .ok (.getfield 93, 3) := by decide +kernel
theorem dX4_nextToken_8 : decode cX4_nextToken 8 = .ok (.if_icmp .ge 30, 3) := by decide +kernel
theorem dX4_nextToken_11 : decode cX4_nextToken 11 = .ok (.aload_n 1, 1) := by decide +kernel
theorem dX4_nextToken_12 : decode cX4_nextToken 12 = .ok (.getfield 98, 3) := by decide +kernel
theorem dX4_nextToken_15 : decode cX4_nextToken 15 = .ok (.aload_n 0, 1) := by decide +kernel
theorem dX4_nextToken_16 : decode cX4_nextToken 16 = .ok (.getfield 18, 3) := by decide +kernel
theorem dX4_nextToken_19 : decode cX4_nextToken 19 = .ok (.iaload, 1) := by decide +kernel
theorem dX4_nextToken_20 : decode cX4_nextToken 20 = .ok (.bipush 32, 2) := by decide +kernel
theorem dX4_nextToken_22 : decode cX4_nextToken 22 = .ok (.if_icmp .ne 16, 3) := by decide +kernel
theorem dX4_nextToken_25 : decode cX4_nextToken 25 = .ok (.aload_n 0, 1) := by decide +kernel
theorem dX4_nextToken_26 : decode cX4_nextToken 26 = .ok (.dup, 1) := by decide +kernel
theorem dX4_nextToken_27 : decode cX4_nextToken 27 = .ok (.getfield 18, 3) := by decide +kernel
theorem dX4_nextToken_30 : decode cX4_nextToken 30 = .ok (.iconst 1, 1) := by decide +kernel
theorem dX4_nextToken_31 : decode cX4_nextToken 31 = .ok (.iadd, 1) := by decide +kernel
theorem dX4_nextToken_32 : decode cX4_nextToken 32 = .ok (.putfield 18, 3) := by decide +kernel
theorem dX4_nextToken_35 : decode cX4_nextToken 35 = .ok (.goto (-35), 3) := by decide +kernel
theorem dX4_nextToken_38 : decode cX4_nextToken 38 = .ok (.aload_n 0, 1) := by decide +kernel
theorem dX4_nextToken_39 : decode cX4_nextToken 39 = .ok (.aload_n 0, 1) := by decide +kernel
theorem dX4_nextToken_40 : decode cX4_nextToken 40 = .ok (.getfield 18, 3) := by decide +kernel
theorem dX4_nextToken_43 : decode cX4_nextToken 43 = .ok (.putfield 22, 3) := by decide +kernel
theorem dX4_nextToken_46 : decode cX4_nextToken 46 = .ok (.aload_n 0, 1) := by decide +kernel
theorem dX4_nextToken_47 : decode cX4_nextToken 47 = .ok (.getfield 18, 3) := by decide +kernel
theorem dX4_nextToken_50 : decode cX4_nextToken 50 = .ok (.aload_n 1, 1) := by decide +kernel
theorem dX4_nextToken_51 : decode cX4_nextToken 51 = .ok (.getfield 93, 3) := by decide +kernel
theorem dX4_nextToken_54 : decode cX4_nextToken 54 = .ok (.if_icmp .lt 13, 3) := by decide +kernel
theorem dX4_nextToken_57 : decode cX4_nextToken 57 = .ok (.aload_n 0, 1) := by decide +kernel
theorem dX4_nextToken_58 : decode cX4_nextToken 58 = .ok (.sipush 257, 3) := by decide +kernel
theorem dX4_nextToken_61 : decode cX4_nextToken 61 = .ok (.putfield 25, 3) := by decide +kernel
theorem dX4_nextToken_64 : decode cX4_nextToken 64 = .ok (.goto 49, 3) := by decide +kernel
theorem dX4_nextToken_67 : decode cX4_nextToken 67 = .ok (.aload_n 1, 1) := by decide +kernel
theorem dX4_nextToken_68 : decode cX4_nextToken 68 = .ok (.getfield 98, 3) := by decide +kernel
theorem dX4_nextToken_71 : decode cX4_nextToken 71 = .ok (.aload_n 0, 1) := by decide +kernel
theorem dX4_nextToken_72 : decode cX4_nextToken 72 = .ok (.getfield 18, 3) := by decide +kernel
theorem dX4_nextToken_75 : decode cX4_nextToken 75 = .ok (.iaload, 1) := by decide +kernel
theorem dX4_nextToken_76 : decode cX4_nextToken 76 = .ok (.invokestatic 101, 3) := by decide +kernel
theorem dX4_nextToken_79 : decode cX4_nextToken 79 = .ok (.ifCond .eq 11, 3) := by decide +kernel
theorem dX4_nextToken_82 : decode cX4_nextToken 82 = .ok (.aload_n 0, 1) := by decide +kernel
theorem dX4_nextToken_83 : decode cX4_nextToken 83 = .ok (.aload_n 1, 1) := by decide +kernel
theorem dX4_nextToken_84 : decode cX4_nextToken 84 = .ok (.invokevirtual 105, 3) := by decide +kernel
theorem dX4_nextToken_87 : decode cX4_nextToken 87 = .ok (.goto 26, 3) := by decide +kernel
theorem dX4_nextToken_90 : decode cX4_nextToken 90 = .ok (.aload_n 0, 1) := by decide +kernel
theorem dX4_nextToken_91 : decode cX4_nextToken 91 = .ok (.aload_n 1, 1) := by decide +kernel
theorem dX4_nextToken_92 : decode cX4_nextToken 92 = .ok (.getfield 98, 3) := by decide +kernel
theorem dX4_nextToken_95 : decode cX4_nextToken 95 = .ok (.aload_n 0, 1) := by decide +kernel
theorem dX4_nextToken_96 : decode cX4_nextToken 96 = .ok (.getfield 18, 3) := by decide +kernel
theorem dX4_nextToken_99 : decode cX4_nextToken 99 = .ok (.iaload, 1) := by decide +kernel
theorem dX4_nextToken_100 : decode cX4_nextToken 100 = .ok (.putfield 25, 3) := by decide +kernel
theorem dX4_nextToken_103 : decode cX4_nextToken 103 = .ok (.aload_n 0, 1) := by decide +kernel
theorem dX4_nextToken_104 : decode cX4_nextToken 104 = .ok (.dup, 1) := by decide +kernel
theorem dX4_nextToken_105 : decode cX4_nextToken 105 = .ok (.getfield 18, 3) := by decide +kernel
theorem dX4_nextToken_108 : decode cX4_nextToken 108 = .ok (.iconst 1, 1) := by decide +kernel
theorem dX4_nextToken_109 : decode cX4_nextToken 109 = .ok (.iadd, 1) := by decide +kernel
theorem dX4_nextToken_110 : decode cX4_nextToken 110 = .ok (.putfield 18, 3) := by decide +kernel
theorem dX4_nextToken_113 : decode cX4_nextToken 113 = .ok (.return_, 1) := by decide +kernel
theorem dX4_takeNumber_0 : decode cX4_takeNumber 0 = .ok (.aload_n 0, 1) := by decide +kernel
theorem dX4_takeNumber_1 : decode cX4_takeNumber 1 = .ok (.iconst 0, 1) := by decide +kernel
theorem dX4_takeNumber_2 : decode cX4_takeNumber 2 = .ok (.putfield 28, 3) := by decide +kernel
theorem dX4_takeNumber_5 : decode cX4_takeNumber 5 = .ok (.aload_n 0, 1) := by decide +kernel
theorem dX4_takeNumber_6 : decode cX4_takeNumber 6 = .ok (.getfield 18, 3) := by decide +kernel
theorem dX4_takeNumber_9 : decode cX4_takeNumber 9 = .ok (.aload_n 1, 1) := by decide +kernel
theorem dX4_takeNumber_10 : decode cX4_takeNumber 10 = .ok (.getfield 93, 3) := by decide +kernel
theorem dX4_takeNumber_13 : decode cX4_takeNumber 13 = .ok (.if_icmp .ge 55, 3) := by decide +kernel
theorem dX4_takeNumber_16 : decode cX4_takeNumber 16 = .ok (.aload_n 1, 1) := by decide +kernel
theorem dX4_takeNumber_17 : decode cX4_takeNumber 17 = .ok (.getfield 98, 3) := by decide +kernel
theorem dX4_takeNumber_20 : decode cX4_takeNumber 20 = .ok (.aload_n 0, 1) := by decide +kernel
theorem dX4_takeNumber_21 : decode cX4_takeNumber 21 = .ok (.getfield 18, 3) := by decide +kernel
theorem dX4_takeNumber_24 : decode cX4_takeNumber 24 = .ok (.iaload, 1) := by decide +kernel
theorem dX4_takeNumber_25 : decode cX4_takeNumber 25 = .ok (.invokestatic 101, 3) := by decide +kernel
theorem dX4_takeNumber_28 : decode cX4_takeNumber 28 = .ok (.ifCond .eq 40, 3) := by decide +kernel
theorem dX4_takeNumber_31 : decode cX4_takeNumber 31 = .ok (.aload_n 0, 1) := by decide +kernel
theorem dX4_takeNumber_32 : decode cX4_takeNumber 32 = .ok (.aload_n 0, 1) := by decide +kernel
theorem dX4_takeNumber_33 : decode cX4_takeNumber 33 = .ok (.getfield 28, 3) := by decide +kernel
theorem dX4_takeNumber_36 : decode cX4_takeNumber 36 = .ok (.bipush 10, 2) := by decide +kernel
theorem dX4_takeNumber_38 : decode cX4_takeNumber 38 = .ok (.imul, 1) := by decide +kernel
theorem dX4_takeNumber_39 : decode cX4_takeNumber 39 = .ok (.aload_n 1, 1) := by decide +kernel
theorem dX4_takeNumber_40 : decode cX4_takeNumber 40 = .ok (.getfield 98, 3) := by decide +kernel
theorem dX4_takeNumber_43 : decode cX4_takeNumber 43 = .ok (.aload_n 0, 1) := by decide +kernel
theorem dX4_takeNumber_44 : decode cX4_takeNumber 44 = .ok (.getfield 18, 3) := by decide +kernel
theorem dX4_takeNumber_47 : decode cX4_takeNumber 47 = .ok (.iaload, 1) := by decide +kernel
theorem dX4_takeNumber_48 : decode cX4_takeNumber 48 = .ok (.iadd, 1) := by decide +kernel
theorem dX4_takeNumber_49 : decode cX4_takeNumber 49 = .ok (.bipush 48, 2) := by decide +kernel
theorem dX4_takeNumber_51 : decode cX4_takeNumber 51 = .ok (.isub, 1) := by decide +kernel
theorem dX4_takeNumber_52 : decode cX4_takeNumber 52 = .ok (.putfield 28, 3) := by decide +kernel
theorem dX4_takeNumber_55 : decode cX4_takeNumber 55 = .ok (.aload_n 0, 1) := by decide +kernel
theorem dX4_takeNumber_56 : decode cX4_takeNumber 56 = .ok (.dup, 1) := by decide +kernel
theorem dX4_takeNumber_57 : decode cX4_takeNumber 57 = .ok (.getfield 18, 3) := by decide +kernel
theorem dX4_takeNumber_60 : decode cX4_takeNumber 60 = .ok (.iconst 1, 1) := by decide +kernel
theorem dX4_takeNumber_61 : decode cX4_takeNumber 61 = .ok (.iadd, 1) := by decide +kernel
theorem dX4_takeNumber_62 : decode cX4_takeNumber 62 = .ok (.putfield 18, 3) := by decide +kernel
theorem dX4_takeNumber_65 : decode cX4_takeNumber 65 = .ok (.goto (-60), 3) := by decide +kernel
theorem dX4_takeNumber_68 : decode cX4_takeNumber 68 = .ok (.aload_n 0, 1) := by decide +kernel
theorem dX4_takeNumber_69 : decode cX4_takeNumber 69 = .ok (.getfield 18, 3) := by decide +kernel
theorem dX4_takeNumber_72 : decode cX4_takeNumber 72 = .ok (.aload_n 0, 1) := by decide +kernel
theorem dX4_takeNumber_73 : decode cX4_takeNumber 73 = .ok (.getfield 22, 3) := by decide +kernel
theorem dX4_takeNumber_76 : decode cX4_takeNumber 76 = .ok (.isub, 1) := by decide +kernel
theorem dX4_takeNumber_77 : decode cX4_takeNumber 77 = .ok (.istore_n 2, 1) := by decide +kernel
theorem dX4_takeNumber_78 : decode cX4_takeNumber 78 = .ok (.iload_n 2, 1) := by decide +kernel
theorem dX4_takeNumber_79 : decode cX4_takeNumber 79 = .ok (.iconst 1, 1) := by decide +kernel
theorem dX4_takeNumber_80 : decode cX4_takeNumber 80 = .ok (.if_icmp .le 21, 3) := by decide +kernel
theorem dX4_takeNumber_83 : decode cX4_takeNumber 83 = .ok (.aload_n 1, 1) := by decide +kernel
theorem dX4_takeNumber_84 : decode cX4_takeNumber 84 = .ok (.getfield 98, 3) := by decide +kernel
theorem dX4_takeNumber_87 : decode cX4_takeNumber 87 = .ok (.aload_n 0, 1) := by decide +kernel
theorem dX4_takeNumber_88 : decode cX4_takeNumber 88 = .ok (.getfield 22, 3) := by decide +kernel
theorem dX4_takeNumber_91 : decode cX4_takeNumber 91 = .ok (.iaload, 1) := by decide +kernel
theorem dX4_takeNumber_92 : decode cX4_takeNumber 92 = .ok (.bipush 48, 2) := by decide +kernel
theorem dX4_takeNumber_94 : decode cX4_takeNumber 94 = .ok (.if_icmp .ne 7, 3) := by decide +kernel
theorem dX4_takeNumber_97 : decode cX4_takeNumber 97 = .ok (.iconst 1, 1) := by decide +kernel
theorem dX4_takeNumber_98 : decode cX4_takeNumber 98 = .ok (.goto 4, 3) := by decide +kernel
theorem dX4_takeNumber_101 : decode cX4_takeNumber 101 = .ok (.iconst 0, 1) := by decide +kernel
theorem dX4_takeNumber_102 : decode cX4_takeNumber 102 = .ok (.istore_n 3, 1) := by decide +kernel
theorem dX4_takeNumber_103 : decode cX4_takeNumber 103 = .ok (.aload_n 0, 1) := by decide +kernel
theorem dX4_takeNumber_104 : decode cX4_takeNumber 104 = .ok (.iload_n 2, 1) := by decide +kernel
theorem dX4_takeNumber_105 : decode cX4_takeNumber 105 = .ok (.iconst 2, 1) := by decide +kernel
theorem dX4_takeNumber_106 : decode cX4_takeNumber 106 = .ok (.if_icmp .gt 7, 3) := by decide +kernel
theorem dX4_takeNumber_109 : decode cX4_takeNumber 109 = .ok (.iload_n 3, 1) := by decide +kernel
theorem dX4_takeNumber_110 : decode cX4_takeNumber 110 = .ok (.ifCond .eq 9, 3) := by decide +kernel
theorem dX4_takeNumber_113 : decode cX4_takeNumber 113 = .ok (.sipush 258, 3) := by decide +kernel
theorem dX4_takeNumber_116 : decode cX4_takeNumber 116 = .ok (.goto 6, 3) := by decide +kernel
theorem dX4_takeNumber_119 : decode cX4_takeNumber 119 = .ok (.sipush 256, 3) := by decide +kernel
theorem dX4_takeNumber_122 : decode cX4_takeNumber 122 = .ok (.putfield 25, 3) := by decide +kernel
theorem dX4_takeNumber_125 : decode cX4_takeNumber 125 = .ok (.return_, 1) := by decide +kernel
theorem dX4_isDigit_0 : decode cX4_isDigit 0 = .ok (.iload_n 0, 1) := by decide +kernel
theorem dX4_isDigit_1 : decode cX4_isDigit 1 = .ok (.bipush 48, 2) := by decide +kernel
theorem dX4_isDigit_3 : decode cX4_isDigit 3 = .ok (.if_icmp .lt 13, 3) := by decide +kernel
theorem dX4_isDigit_6 : decode cX4_isDigit 6 = .ok (.iload_n 0, 1) := by decide +kernel
theorem dX4_isDigit_7 : decode cX4_isDigit 7 = .ok (.bipush 57, 2) := by decide +kernel
theorem dX4_isDigit_9 : decode cX4_isDigit 9 = .ok (.if_icmp .gt 7, 3) := by decide +kernel
theorem dX4_isDigit_12 : decode cX4_isDigit 12 = .ok (.iconst 1, 1) := by decide +kernel
theorem dX4_isDigit_13 : decode cX4_isDigit 13 = .ok (.goto 4, 3) := by decide +kernel
theorem dX4_isDigit_16 : decode cX4_isDigit 16 = .ok (.iconst 0, 1) := by decide +kernel
theorem dX4_isDigit_17 : decode cX4_isDigit 17 = .ok (.ireturn, 1) := by decide +kernel
theorem dX5_init_0 : decode cX5_init 0 = .ok (.aload_n 0, 1) := by decide +kernel
theorem dX5_init_1 : decode cX5_init 1 = .ok (.invokespecial 3, 3) := by decide +kernel
theorem dX5_init_4 : decode cX5_init 4 = .ok (.aload_n 0, 1) := by decide +kernel
theorem dX5_init_5 : decode cX5_init 5 = .ok (.bipush 7, 2) := by decide +kernel
theorem dX5_init_7 : decode cX5_init 7 = .ok (.newarray .int, 2) := by decide +kernel
theorem dX5_init_9 : decode cX5_init 9 = .ok (.putfield 9, 3) := by decide +kernel
theorem dX5_init_12 : decode cX5_init 12 = .ok (.aload_n 0, 1) := by decide +kernel
theorem dX5_init_13 : decode cX5_init 13 = .ok (.bipush 7, 2) := by decide +kernel
theorem dX5_init_15 : decode cX5_init 15 = .ok (.newarray .int, 2) := by decide +kernel
theorem dX5_init_17 : decode cX5_init 17 = .ok (.putfield 15, 3) := by decide +kernel
theorem dX5_init_20 : decode cX5_init 20 = .ok (.aload_n 0, 1) := by decide +kernel
theorem dX5_init_21 : decode cX5_init 21 = .ok (.iconst 0, 1) := by decide +kernel
theorem dX5_init_22 : decode cX5_init 22 = .ok (.putfield 18, 3) := by decide +kernel
theorem dX5_init_25 : decode cX5_init 25 = .ok (.return_, 1) := by decide +kernel
theorem dX5_search_0 : decode cX5_search 0 = .ok (.aload_n 0, 1) := by decide +kernel
theorem dX5_search_1 : decode cX5_search 1 = .ok (.bipush 8, 2) := by decide +kernel
theorem dX5_search_3 : decode cX5_search 3 = .ok (.putfield 18, 3) := by decide +kernel
theorem dX5_search_6 : decode cX5_search 6 = .ok (.aload_n 0, 1) := by decide +kernel
theorem dX5_search_7 : decode cX5_search 7 = .ok (.aload_n 1, 1) := by decide +kernel
theorem dX5_search_8 : decode cX5_search 8 = .ok (.iconst 0, 1) := by decide +kernel
theorem dX5_search_9 : decode cX5_search 9 = .ok (.iconst 0, 1) := by decide +kernel
theorem dX5_search_10 : decode cX5_search 10 = .ok (.invokevirtual 22, 3) := by decide +kernel
theorem dX5_search_13 : decode cX5_search 13 = .ok (.return_, 1) := by decide +kernel
theorem dX5_found_0 : decode cX5_found 0 = .ok (.aload_n 0, 1) := by decide +kernel
theorem dX5_found_1 : decode cX5_found 1 = .ok (.getfield 18, 3) := by decide +kernel
theorem dX5_found_4 : decode cX5_found 4 = .ok (.bipush 7, 2) := by decide +kernel
theorem dX5_found_6 : decode cX5_found 6 = .ok (.if_icmp .gt 7, 3) := by decide +kernel
theorem dX5_found_9 : decode cX5_found 9 = .ok (.iconst 1, 1) := by decide +kernel
theorem dX5_found_10 : decode cX5_found 10 = .ok (.goto 4, 3) := by decide +kernel
theorem dX5_found_13 : decode cX5_found 13 = .ok (.iconst 0, 1) := by decide +kernel
theorem dX5_found_14 : decode cX5_found 14 = .ok (.ireturn, 1) := by decide +kernel
theorem dX5_nameFrom_0 : decode cX5_nameFrom 0 = .ok (.iload_n 3, 1) := by decide +kernel
theorem dX5_nameFrom_1 : decode cX5_nameFrom 1 = .ok (.aload_n 0, 1) := by decide +kernel
theorem dX5_nameFrom_2 : decode cX5_nameFrom 2 = .ok (.getfield 18, 3) := by decide +kernel
theorem dX5_nameFrom_5 : decode cX5_nameFrom 5 = .ok (.if_icmp .lt 4, 3) := by decide +kernel
theorem dX5_nameFrom_8 : decode cX5_nameFrom 8 = .ok (.return_, 1) := by decide +kernel
theorem dX5_nameFrom_9 : decode cX5_nameFrom 9 = .ok (.iload_n 2, 1) := by decide +kernel
theorem dX5_nameFrom_10 : decode cX5_nameFrom 10 = .ok (.aload_n 1, 1) := by decide +kernel
theorem dX5_nameFrom_11 : decode cX5_nameFrom 11 = .ok (.getfield 26, 3) := by decide +kernel
theorem dX5_nameFrom_14 : decode cX5_nameFrom 14 = .ok (.if_icmp .lt 24, 3) := by decide +kernel
theorem dX5_nameFrom_17 : decode cX5_nameFrom 17 = .ok (.aload_n 0, 1) := by decide +kernel
theorem dX5_nameFrom_18 : decode cX5_nameFrom 18 = .ok (.iload_n 3, 1) := by decide +kernel
theorem dX5_nameFrom_19 : decode cX5_nameFrom 19 = .ok (.putfield 18, 3) := by decide +kernel
theorem dX5_nameFrom_22 : decode cX5_nameFrom 22 = .ok (.aload_n 0, 1) := by decide +kernel
theorem dX5_nameFrom_23 : decode cX5_nameFrom 23 = .ok (.getfield 9, 3) := by decide +kernel
theorem dX5_nameFrom_26 : decode cX5_nameFrom 26 = .ok (.iconst 0, 1) := by decide +kernel
theorem dX5_nameFrom_27 : decode cX5_nameFrom 27 = .ok (.aload_n 0, 1) := by decide +kernel
theorem dX5_nameFrom_28 : decode cX5_nameFrom 28 = .ok (.getfield 15, 3) := by decide +kernel
theorem dX5_nameFrom_31 : decode cX5_nameFrom 31 = .ok (.iconst 0, 1) := by decide +kernel
theorem dX5_nameFrom_32 : decode cX5_nameFrom 32 = .ok (.bipush 7, 2) := by decide +kernel
theorem dX5_nameFrom_34 : decode cX5_nameFrom 34 = .ok (.invokestatic 31, 3) := by decide +kernel
theorem dX5_nameFrom_37 : decode cX5_nameFrom 37 = .ok (.return_, 1) := by decide +kernel
theorem dX5_nameFrom_38 : decode cX5_nameFrom 38 = .ok (.iconst 0, 1) := by decide +kernel
theorem dX5_nameFrom_39 : decode cX5_nameFrom 39 = .ok (.istore 4, 2) := by decide +kernel
theorem dX5_nameFrom_41 : decode cX5_nameFrom 41 = .ok (.iload 4, 2) := by decide +kernel
theorem dX5_nameFrom_43 : decode cX5_nameFrom 43 = .ok (.aload_n 1, 1) := by decide +kernel
theorem dX5_nameFrom_44 : decode cX5_nameFrom 44 = .ok (.getfield 37, 3) := by decide +kernel
theorem dX5_nameFrom_47 : decode cX5_nameFrom 47 = .ok (.if_icmp .ge 57, 3) := by decide +kernel
theorem dX5_nameFrom_50 : decode cX5_nameFrom 50 = .ok (.aload_n 0, 1) := by decide +kernel
theorem dX5_nameFrom_51 : decode cX5_nameFrom 51 = .ok (.aload_n 1, 1) := by decide +kernel
theorem dX5_nameFrom_52 : decode cX5_nameFrom 52 = .ok (.iload_n 2, 1) := by decide +kernel
theorem dX5_nameFrom_53 : decode cX5_nameFrom 53 = .ok (.iload 4, 2) := by decide +kernel
theorem dX5_nameFrom_55 : decode cX5_nameFrom 55 = .ok (.invokevirtual 40, 3) := by decide +kernel
theorem dX5_nameFrom_58 : decode cX5_nameFrom 58 = .ok (.ifCond .eq 40, 3) := by decide +kernel
theorem dX5_nameFrom_61 : decode cX5_nameFrom 61 = .ok (.aload_n 0, 1) := by decide +kernel
theorem dX5_nameFrom_62 : decode cX5_nameFrom 62 = .ok (.getfield 9, 3) := by decide +kernel
theorem dX5_nameFrom_65 : decode cX5_nameFrom 65 = .ok (.iload_n 2, 1) := by decide +kernel
theorem dX5_nameFrom_66 : decode cX5_nameFrom 66 = .ok (.iload 4, 2) := by decide +kernel
theorem dX5_nameFrom_68 : decode cX5_nameFrom 68 = .ok (.iastore, 1) := by decide +kernel
theorem dX5_nameFrom_69 : decode cX5_nameFrom 69 = .ok (.aload_n 0, 1) := by decide +kernel
theorem dX5_nameFrom_70 : decode cX5_nameFrom 70 = .ok (.aload_n 1, 1) := by decide +kernel
theorem dX5_nameFrom_71 : decode cX5_nameFrom 71 = .ok (.iload_n 2, 1) := by decide +kernel
theorem dX5_nameFrom_72 : decode cX5_nameFrom 72 = .ok (.iconst 1, 1) := by decide +kernel
theorem dX5_nameFrom_73 : decode cX5_nameFrom 73 = .ok (.iadd, 1) := by decide +kernel
theorem dX5_nameFrom_74 : decode cX5_nameFrom 74 = .ok (.iload 4, 2) := by decide +kernel
theorem dX5_nameFrom_76 : decode cX5_nameFrom 76 = .ok (.aload_n 1, 1) := by decide +kernel
theorem dX5_nameFrom_77 : decode cX5_nameFrom 77 = .ok (.getfield 44, 3) := by decide +kernel
theorem dX5_nameFrom_80 : decode cX5_nameFrom 80 = .ok (.getfield 48, 3) := by decide +kernel
theorem dX5_nameFrom_83 : decode cX5_nameFrom 83 = .ok (.iload_n 2, 1) := by decide +kernel
theorem dX5_nameFrom_84 : decode cX5_nameFrom 84 = .ok (.iaload, 1) := by decide +kernel
theorem dX5_nameFrom_85 : decode cX5_nameFrom 85 = .ok (.if_icmp .ne 7, 3) := by decide +kernel
theorem dX5_nameFrom_88 : decode cX5_nameFrom 88 = .ok (.iload_n 3, 1) := by decide +kernel
theorem dX5_nameFrom_89 : decode cX5_nameFrom 89 = .ok (.goto 6, 3) := by decide +kernel
theorem dX5_nameFrom_92 : decode cX5_nameFrom 92 = .ok (.iload_n 3, 1) := by decide +kernel
theorem dX5_nameFrom_93 : decode cX5_nameFrom 93 = .ok (.iconst 1, 1) := by decide +kernel
theorem dX5_nameFrom_94 : decode cX5_nameFrom 94 = .ok (.iadd, 1) := by decide +kernel
theorem dX5_nameFrom_95 : decode cX5_nameFrom 95 = .ok (.invokevirtual 22, 3) := by decide +kernel
theorem dX5_nameFrom_98 : decode cX5_nameFrom 98 = .ok (.iinc 4 1, 3) := by decide +kernel
theorem dX5_nameFrom_101 : decode cX5_nameFrom 101 = .ok (.goto (-60), 3) := by decide +kernel
theorem dX5_nameFrom_104 : decode cX5_nameFrom 104 = .ok (.return_, 1) := by decide +kernel
theorem dX5_isFree_0 : decode cX5_isFree 0 = .ok (.iconst 0, 1) := by decide +kernel
theorem dX5_isFree_1 : decode cX5_isFree 1 = .ok (.istore 4, 2) := by decide +kernel
theorem dX5_isFree_3 : decode cX5_isFree 3 = .ok (.iload 4, 2) := by decide +kernel
theorem dX5_isFree_5 : decode cX5_isFree 5 = .ok (.iload_n 2, 1) := by decide +kernel
theorem dX5_isFree_6 : decode cX5_isFree 6 = .ok (.if_icmp .ge 32, 3) := by decide +kernel
theorem dX5_isFree_9 : decode cX5_isFree 9 = .ok (.aload_n 0, 1) := by decide +kernel
theorem dX5_isFree_10 : decode cX5_isFree 10 = .ok (.getfield 9, 3) := by decide +kernel
theorem dX5_isFree_13 : decode cX5_isFree 13 = .ok (.iload 4, 2) := by decide +kernel
theorem dX5_isFree_15 : decode cX5_isFree 15 = .ok (.iaload, 1) := by decide +kernel
theorem dX5_isFree_16 : decode cX5_isFree 16 = .ok (.iload_n 3, 1) := by decide +kernel
theorem dX5_isFree_17 : decode cX5_isFree 17 = .ok (.if_icmp .ne 15, 3) := by decide +kernel
theorem dX5_isFree_20 : decode cX5_isFree 20 = .ok (.aload_n 1, 1) := by decide +kernel
theorem dX5_isFree_21 : decode cX5_isFree 21 = .ok (.iload_n 2, 1) := by decide +kernel
theorem dX5_isFree_22 : decode cX5_isFree 22 = .ok (.iload 4, 2) := by decide +kernel
theorem dX5_isFree_24 : decode cX5_isFree 24 = .ok (.invokevirtual 53, 3) := by decide +kernel
theorem dX5_isFree_27 : decode cX5_isFree 27 = .ok (.ifCond .eq 5, 3) := by decide +kernel
theorem dX5_isFree_30 : decode cX5_isFree 30 = .ok (.iconst 0, 1) := by decide +kernel
theorem dX5_isFree_31 : decode cX5_isFree 31 = .ok (.ireturn, 1) := by decide +kernel
theorem dX5_isFree_32 : decode cX5_isFree 32 = .ok (.iinc 4 1, 3) := by decide +kernel
theorem dX5_isFree_35 : decode cX5_isFree 35 = .ok (.goto (-32), 3) := by decide +kernel
theorem dX5_isFree_38 : decode cX5_isFree 38 = .ok (.iconst 1, 1) := by decide +kernel
theorem dX5_isFree_39 : decode cX5_isFree 39 = .ok (.ireturn, 1) := by decide +kernel
theorem dX6_init_0 : decode cX6_init 0 = .ok (.aload_n 0, 1) := by decide +kernel
theorem dX6_init_1 : decode cX6_init 1 = .ok (.invokespecial 3, 3) := by decide +kernel
theorem dX6_init_4 : decode cX6_init 4 = .ok (.aload_n 0, 1) := by decide +kernel
theorem dX6_init_5 : decode cX6_init 5 = .ok (.sipush 200, 3) := by decide +kernel
theorem dX6_init_8 : decode cX6_init 8 = .ok (.newarray .int, 2) := by decide +kernel
theorem dX6_init_10 : decode cX6_init 10 = .ok (.putfield 9, 3) := by decide +kernel
theorem dX6_init_13 : decode cX6_init 13 = .ok (.aload_n 0, 1) := by decide +kernel
theorem dX6_init_14 : decode cX6_init 14 = .ok (.iconst 0, 1) := by decide +kernel
theorem dX6_init_15 : decode cX6_init 15 = .ok (.putfield 15, 3) := by decide +kernel
theorem dX6_init_18 : decode cX6_init 18 = .ok (.return_, 1) := by decide +kernel
theorem dX7_init_0 : decode cX7_init 0 = .ok (.aload_n 0, 1) := by decide +kernel
theorem dX7_init_1 : decode cX7_init 1 = .ok (.invokespecial 3, 3) := by decide +kernel
theorem dX7_init_4 : decode cX7_init 4 = .ok (.aload_n 0, 1) := by decide +kernel
theorem dX7_init_5 : decode cX7_init 5 = .ok (.bipush 7, 2) := by decide +kernel
theorem dX7_init_7 : decode cX7_init 7 = .ok (.newarray .int, 2) := by decide +kernel
theorem dX7_init_9 : decode cX7_init 9 = .ok (.putfield 9, 3) := by decide +kernel
theorem dX7_init_12 : decode cX7_init 12 = .ok (.aload_n 0, 1) := by decide +kernel
theorem dX7_init_13 : decode cX7_init 13 = .ok (.bipush 7, 2) := by decide +kernel
theorem dX7_init_15 : decode cX7_init 15 = .ok (.newarray .int, 2) := by decide +kernel
theorem dX7_init_17 : decode cX7_init 17 = .ok (.putfield 15, 3) := by decide +kernel
theorem dX7_init_20 : decode cX7_init 20 = .ok (.aload_n 0, 1) := by decide +kernel
theorem dX7_init_21 : decode cX7_init 21 = .ok (.iconst 0, 1) := by decide +kernel
theorem dX7_init_22 : decode cX7_init 22 = .ok (.putfield 18, 3) := by decide +kernel
theorem dX7_init_25 : decode cX7_init 25 = .ok (.return_, 1) := by decide +kernel
theorem dX7_search_0 : decode cX7_search 0 = .ok (.iconst 0, 1) := by decide +kernel
theorem dX7_search_1 : decode cX7_search 1 = .ok (.istore_n 2, 1) := by decide +kernel
theorem dX7_search_2 : decode cX7_search 2 = .ok (.iload_n 2, 1) := by decide +kernel
theorem dX7_search_3 : decode cX7_search 3 = .ok (.bipush 7, 2) := by decide +kernel
theorem dX7_search_5 : decode cX7_search 5 = .ok (.if_icmp .ge 17, 3) := by decide +kernel
theorem dX7_search_8 : decode cX7_search 8 = .ok (.aload_n 0, 1) := by decide +kernel
theorem dX7_search_9 : decode cX7_search 9 = .ok (.getfield 9, 3) := by decide +kernel
theorem dX7_search_12 : decode cX7_search 12 = .ok (.iload_n 2, 1) := by decide +kernel
theorem dX7_search_13 : decode cX7_search 13 = .ok (.bipush (-9), 2) := by decide +kernel
theorem dX7_search_15 : decode cX7_search 15 = .ok (.iastore, 1) := by decide +kernel
theorem dX7_search_16 : decode cX7_search 16 = .ok (.iinc 2 1, 3) := by decide +kernel
theorem dX7_search_19 : decode cX7_search 19 = .ok (.goto (-17), 3) := by decide +kernel
theorem dX7_search_22 : decode cX7_search 22 = .ok (.aload_n 0, 1) := by decide +kernel
theorem dX7_search_23 : decode cX7_search 23 = .ok (.iconst (-1), 1) := by decide +kernel
theorem dX7_search_24 : decode cX7_search 24 = .ok (.putfield 18, 3) := by decide +kernel
theorem dX7_search_27 : decode cX7_search 27 = .ok (.aload_n 0, 1) := by decide +kernel
theorem dX7_search_28 : decode cX7_search 28 = .ok (.aload_n 1, 1) := by decide +kernel
theorem dX7_search_29 : decode cX7_search 29 = .ok (.iconst 0, 1) := by decide +kernel
theorem dX7_search_30 : decode cX7_search 30 = .ok (.iconst 0, 1) := by decide +kernel
theorem dX7_search_31 : decode cX7_search 31 = .ok (.invokevirtual 22, 3) := by decide +kernel
theorem dX7_search_34 : decode cX7_search 34 = .ok (.return_, 1) := by decide +kernel
theorem dX7_pairFrom_0 : decode cX7_pairFrom 0 = .ok (.iload_n 3, 1) := by decide +kernel
theorem dX7_pairFrom_1 : decode cX7_pairFrom 1 = .ok (.aload_n 1, 1) := by decide +kernel
theorem dX7_pairFrom_2 : decode cX7_pairFrom 2 = .ok (.getfield 26, 3) := by decide +kernel
theorem dX7_pairFrom_5 : decode cX7_pairFrom 5 = .ok (.iload_n 2, 1) := by decide +kernel
theorem dX7_pairFrom_6 : decode cX7_pairFrom 6 = .ok (.isub, 1) := by decide +kernel
theorem dX7_pairFrom_7 : decode cX7_pairFrom 7 = .ok (.iconst 2, 1) := by decide +kernel
theorem dX7_pairFrom_8 : decode cX7_pairFrom 8 = .ok (.idiv, 1) := by decide +kernel
theorem dX7_pairFrom_9 : decode cX7_pairFrom 9 = .ok (.iadd, 1) := by decide +kernel
theorem dX7_pairFrom_10 : decode cX7_pairFrom 10 = .ok (.aload_n 0, 1) := by decide +kernel
theorem dX7_pairFrom_11 : decode cX7_pairFrom 11 = .ok (.getfield 18, 3) := by decide +kernel
theorem dX7_pairFrom_14 : decode cX7_pairFrom 14 = .ok (.if_icmp .gt 4, 3) := by decide +kernel
theorem dX7_pairFrom_17 : decode cX7_pairFrom 17 = .ok (.return_, 1) := by decide +kernel
theorem dX7_pairFrom_18 : decode cX7_pairFrom 18 = .ok (.iload_n 2, 1) := by decide +kernel
theorem dX7_pairFrom_19 : decode cX7_pairFrom 19 = .ok (.aload_n 1, 1) := by decide +kernel
theorem dX7_pairFrom_20 : decode cX7_pairFrom 20 = .ok (.getfield 26, 3) := by decide +kernel
theorem dX7_pairFrom_23 : decode cX7_pairFrom 23 = .ok (.if_icmp .lt 24, 3) := by decide +kernel
theorem dX7_pairFrom_26 : decode cX7_pairFrom 26 = .ok (.aload_n 0, 1) := by decide +kernel
theorem dX7_pairFrom_27 : decode cX7_pairFrom 27 = .ok (.iload_n 3, 1) := by decide +kernel
theorem dX7_pairFrom_28 : decode cX7_pairFrom 28 = .ok (.putfield 18, 3) := by decide +kernel
theorem dX7_pairFrom_31 : decode cX7_pairFrom 31 = .ok (.aload_n 0, 1) := by decide +kernel
theorem dX7_pairFrom_32 : decode cX7_pairFrom 32 = .ok (.getfield 9, 3) := by decide +kernel
theorem dX7_pairFrom_35 : decode cX7_pairFrom 35 = .ok (.iconst 0, 1) := by decide +kernel
theorem dX7_pairFrom_36 : decode cX7_pairFrom 36 = .ok (.aload_n 0, 1) := by decide +kernel
theorem dX7_pairFrom_37 : decode cX7_pairFrom 37 = .ok (.getfield 15, 3) := by decide +kernel
theorem dX7_pairFrom_40 : decode cX7_pairFrom 40 = .ok (.iconst 0, 1) := by decide +kernel
theorem dX7_pairFrom_41 : decode cX7_pairFrom 41 = .ok (.bipush 7, 2) := by decide +kernel
theorem dX7_pairFrom_43 : decode cX7_pairFrom 43 = .ok (.invokestatic 31, 3) := by decide +kernel
theorem dX7_pairFrom_46 : decode cX7_pairFrom 46 = .ok (.return_, 1) := by decide +kernel
theorem dX7_pairFrom_47 : decode cX7_pairFrom 47 = .ok (.aload_n 0, 1) := by decide +kernel
theorem dX7_pairFrom_48 : decode cX7_pairFrom 48 = .ok (.getfield 9, 3) := by decide +kernel
theorem dX7_pairFrom_51 : decode cX7_pairFrom 51 = .ok (.iload_n 2, 1) := by decide +kernel
theorem dX7_pairFrom_52 : decode cX7_pairFrom 52 = .ok (.iaload, 1) := by decide +kernel
theorem dX7_pairFrom_53 : decode cX7_pairFrom 53 = .ok (.bipush (-9), 2) := by decide +kernel
theorem dX7_pairFrom_55 : decode cX7_pairFrom 55 = .ok (.if_icmp .eq 13, 3) := by decide +kernel
theorem dX7_pairFrom_58 : decode cX7_pairFrom 58 = .ok (.aload_n 0, 1) := by decide +kernel
theorem dX7_pairFrom_59 : decode cX7_pairFrom 59 = .ok (.aload_n 1, 1) := by decide +kernel
theorem dX7_pairFrom_60 : decode cX7_pairFrom 60 = .ok (.iload_n 2, 1) := by decide +kernel
theorem dX7_pairFrom_61 : decode cX7_pairFrom 61 = .ok (.iconst 1, 1) := by decide +kernel
theorem dX7_pairFrom_62 : decode cX7_pairFrom 62 = .ok (.iadd, 1) := by decide +kernel
theorem dX7_pairFrom_63 : decode cX7_pairFrom 63 = .ok (.iload_n 3, 1) := by decide +kernel
theorem dX7_pairFrom_64 : decode cX7_pairFrom 64 = .ok (.invokevirtual 22, 3) := by decide +kernel
theorem dX7_pairFrom_67 : decode cX7_pairFrom 67 = .ok (.return_, 1) := by decide +kernel
theorem dX7_pairFrom_68 : decode cX7_pairFrom 68 = .ok (.iload_n 2, 1) := by decide +kernel
theorem dX7_pairFrom_69 : decode cX7_pairFrom 69 = .ok (.iconst 1, 1) := by decide +kernel
theorem dX7_pairFrom_70 : decode cX7_pairFrom 70 = .ok (.iadd, 1) := by decide +kernel
theorem dX7_pairFrom_71 : decode cX7_pairFrom 71 = .ok (.istore 4, 2) := by decide +kernel
theorem dX7_pairFrom_73 : decode cX7_pairFrom 73 = .ok (.iload 4, 2) := by decide +kernel
theorem dX7_pairFrom_75 : decode cX7_pairFrom 75 = .ok (.aload_n 1, 1) := by decide +kernel
theorem dX7_pairFrom_76 : decode cX7_pairFrom 76 = .ok (.getfield 26, 3) := by decide +kernel
theorem dX7_pairFrom_79 : decode cX7_pairFrom 79 = .ok (.if_icmp .ge 75, 3) := by decide +kernel
theorem dX7_pairFrom_82 : decode cX7_pairFrom 82 = .ok (.aload_n 0, 1) := by decide +kernel
theorem dX7_pairFrom_83 : decode cX7_pairFrom 83 = .ok (.getfield 9, 3) := by decide +kernel
theorem dX7_pairFrom_86 : decode cX7_pairFrom 86 = .ok (.iload 4, 2) := by decide +kernel
theorem dX7_pairFrom_88 : decode cX7_pairFrom 88 = .ok (.iaload, 1) := by decide +kernel
theorem dX7_pairFrom_89 : decode cX7_pairFrom 89 = .ok (.bipush (-9), 2) := by decide +kernel
theorem dX7_pairFrom_91 : decode cX7_pairFrom 91 = .ok (.if_icmp .ne 57, 3) := by decide +kernel
theorem dX7_pairFrom_94 : decode cX7_pairFrom 94 = .ok (.aload_n 1, 1) := by decide +kernel
theorem dX7_pairFrom_95 : decode cX7_pairFrom 95 = .ok (.iload_n 2, 1) := by decide +kernel
theorem dX7_pairFrom_96 : decode cX7_pairFrom 96 = .ok (.iload 4, 2) := by decide +kernel
theorem dX7_pairFrom_98 : decode cX7_pairFrom 98 = .ok (.invokestatic 37, 3) := by decide +kernel
theorem dX7_pairFrom_101 : decode cX7_pairFrom 101 = .ok (.ifCond .eq 47, 3) := by decide +kernel
theorem dX7_pairFrom_104 : decode cX7_pairFrom 104 = .ok (.aload_n 0, 1) := by decide +kernel
theorem dX7_pairFrom_105 : decode cX7_pairFrom 105 = .ok (.getfield 9, 3) := by decide +kernel
theorem dX7_pairFrom_108 : decode cX7_pairFrom 108 = .ok (.iload_n 2, 1) := by decide +kernel
theorem dX7_pairFrom_109 : decode cX7_pairFrom 109 = .ok (.iload 4, 2) := by decide +kernel
theorem dX7_pairFrom_111 : decode cX7_pairFrom 111 = .ok (.iastore, 1) := by decide +kernel
theorem dX7_pairFrom_112 : decode cX7_pairFrom 112 = .ok (.aload_n 0, 1) := by decide +kernel
theorem dX7_pairFrom_113 : decode cX7_pairFrom 113 = .ok (.getfield 9, 3) := by decide +kernel
theorem dX7_pairFrom_116 : decode cX7_pairFrom 116 = .ok (.iload 4, 2) := by decide +kernel
theorem dX7_pairFrom_118 : decode cX7_pairFrom 118 = .ok (.iload_n 2, 1) := by decide +kernel
theorem dX7_pairFrom_119 : decode cX7_pairFrom 119 = .ok (.iastore, 1) := by decide +kernel
theorem dX7_pairFrom_120 : decode cX7_pairFrom 120 = .ok (.aload_n 0, 1) := by decide +kernel
theorem dX7_pairFrom_121 : decode cX7_pairFrom 121 = .ok (.aload_n 1, 1) := by decide +kernel
theorem dX7_pairFrom_122 : decode cX7_pairFrom 122 = .ok (.iload_n 2, 1) := by decide +kernel
theorem dX7_pairFrom_123 : decode cX7_pairFrom 123 = .ok (.iconst 1, 1) := by decide +kernel
theorem dX7_pairFrom_124 : decode cX7_pairFrom 124 = .ok (.iadd, 1) := by decide +kernel
theorem dX7_pairFrom_125 : decode cX7_pairFrom 125 = .ok (.iload_n 3, 1) := by decide +kernel
theorem dX7_pairFrom_126 : decode cX7_pairFrom 126 = .ok (.iconst 1, 1) := by decide +kernel
theorem dX7_pairFrom_127 : decode cX7_pairFrom 127 = .ok (.iadd, 1) := by decide +kernel
theorem dX7_pairFrom_128 : decode cX7_pairFrom 128 = .ok (.invokevirtual 22, 3) := by decide +kernel
theorem dX7_pairFrom_131 : decode cX7_pairFrom 131 = .ok (.aload_n 0, 1) := by decide +kernel
theorem dX7_pairFrom_132 : decode cX7_pairFrom 132 = .ok (.getfield 9, 3) := by decide +kernel
theorem dX7_pairFrom_135 : decode cX7_pairFrom 135 = .ok (.iload_n 2, 1) := by decide +kernel
theorem dX7_pairFrom_136 : decode cX7_pairFrom 136 = .ok (.bipush (-9), 2) := by decide +kernel
theorem dX7_pairFrom_138 : decode cX7_pairFrom 138 = .ok (.iastore, 1) := by decide +kernel
theorem dX7_pairFrom_139 : decode cX7_pairFrom 139 = .ok (.aload_n 0, 1) := by decide +kernel
theorem dX7_pairFrom_140 : decode cX7_pairFrom 140 = .ok (.getfield 9, 3) := by decide +kernel
theorem dX7_pairFrom_143 : decode cX7_pairFrom 143 = .ok (.iload 4, 2) := by decide +kernel
theorem dX7_pairFrom_145 : decode cX7_pairFrom 145 = .ok (.bipush (-9), 2) := by decide +kernel
theorem dX7_pairFrom_147 : decode cX7_pairFrom 147 = .ok (.iastore, 1) := by decide +kernel
theorem dX7_pairFrom_148 : decode cX7_pairFrom 148 = .ok (.iinc 4 1, 3) := by decide +kernel
theorem dX7_pairFrom_151 : decode cX7_pairFrom 151 = .ok (.goto (-78), 3) := by decide +kernel
theorem dX7_pairFrom_154 : decode cX7_pairFrom 154 = .ok (.aload_n 0, 1) := by decide +kernel
theorem dX7_pairFrom_155 : decode cX7_pairFrom 155 = .ok (.aload_n 1, 1) := by decide +kernel
theorem dX7_pairFrom_156 : decode cX7_pairFrom 156 = .ok (.iload_n 2, 1) := by decide +kernel
theorem dX7_pairFrom_157 : decode cX7_pairFrom 157 = .ok (.iconst 1, 1) := by decide +kernel
theorem dX7_pairFrom_158 : decode cX7_pairFrom 158 = .ok (.iadd, 1) := by decide +kernel
theorem dX7_pairFrom_159 : decode cX7_pairFrom 159 = .ok (.iload_n 3, 1) := by decide +kernel
theorem dX7_pairFrom_160 : decode cX7_pairFrom 160 = .ok (.invokevirtual 22, 3) := by decide +kernel
theorem dX7_pairFrom_163 : decode cX7_pairFrom 163 = .ok (.return_, 1) := by decide +kernel
theorem dX7_mayMarry_0 : decode cX7_mayMarry 0 = .ok (.aload_n 0, 1) := by decide +kernel
theorem dX7_mayMarry_1 : decode cX7_mayMarry 1 = .ok (.getfield 41, 3) := by decide +kernel
theorem dX7_mayMarry_4 : decode cX7_mayMarry 4 = .ok (.getfield 45, 3) := by decide +kernel
theorem dX7_mayMarry_7 : decode cX7_mayMarry 7 = .ok (.iload_n 1, 1) := by decide +kernel
theorem dX7_mayMarry_8 : decode cX7_mayMarry 8 = .ok (.iaload, 1) := by decide +kernel
theorem dX7_mayMarry_9 : decode cX7_mayMarry 9 = .ok (.aload_n 0, 1) := by decide +kernel
theorem dX7_mayMarry_10 : decode cX7_mayMarry 10 = .ok (.getfield 41, 3) := by decide +kernel
theorem dX7_mayMarry_13 : decode cX7_mayMarry 13 = .ok (.getfield 45, 3) := by decide +kernel
theorem dX7_mayMarry_16 : decode cX7_mayMarry 16 = .ok (.iload_n 2, 1) := by decide +kernel
theorem dX7_mayMarry_17 : decode cX7_mayMarry 17 = .ok (.iaload, 1) := by decide +kernel
theorem dX7_mayMarry_18 : decode cX7_mayMarry 18 = .ok (.if_icmp .eq 16, 3) := by decide +kernel
theorem dX7_mayMarry_21 : decode cX7_mayMarry 21 = .ok (.aload_n 0, 1) := by decide +kernel
theorem dX7_mayMarry_22 : decode cX7_mayMarry 22 = .ok (.iload_n 1, 1) := by decide +kernel
theorem dX7_mayMarry_23 : decode cX7_mayMarry 23 = .ok (.iload_n 2, 1) := by decide +kernel
theorem dX7_mayMarry_24 : decode cX7_mayMarry 24 = .ok (.invokevirtual 50, 3) := by decide +kernel
theorem dX7_mayMarry_27 : decode cX7_mayMarry 27 = .ok (.ifCond .ne 7, 3) := by decide +kernel
theorem dX7_mayMarry_30 : decode cX7_mayMarry 30 = .ok (.iconst 1, 1) := by decide +kernel
theorem dX7_mayMarry_31 : decode cX7_mayMarry 31 = .ok (.goto 4, 3) := by decide +kernel
theorem dX7_mayMarry_34 : decode cX7_mayMarry 34 = .ok (.iconst 0, 1) := by decide +kernel
theorem dX7_mayMarry_35 : decode cX7_mayMarry 35 = .ok (.ireturn, 1) := by decide +kernel
theorem dJ6_bitCount_0f7a4_0 : decode cJ6_bitCount_0f7a4 0 = .ok (.iload_n 0, 1) := by decide +kernel
theorem dJ6_bitCount_0f7a4_1 : decode cJ6_bitCount_0f7a4 1 = .ok (.iload_n 0, 1) := by decide +kernel
theorem dJ6_bitCount_0f7a4_2 : decode cJ6_bitCount_0f7a4 2 = .ok (.iconst 1, 1) := by decide +kernel
theorem dJ6_bitCount_0f7a4_3 : decode cJ6_bitCount_0f7a4 3 = .ok (.iushr, 1) := by decide +kernel
theorem dJ6_bitCount_0f7a4_4 : decode cJ6_bitCount_0f7a4 4 = .ok (.ldc_w 265, 3) := by decide +kernel
theorem dJ6_bitCount_0f7a4_7 : decode cJ6_bitCount_0f7a4 7 = .ok (.iand, 1) := by decide +kernel
theorem dJ6_bitCount_0f7a4_8 : decode cJ6_bitCount_0f7a4 8 = .ok (.isub, 1) := by decide +kernel
theorem dJ6_bitCount_0f7a4_9 : decode cJ6_bitCount_0f7a4 9 = .ok (.istore_n 0, 1) := by decide +kernel
theorem dJ6_bitCount_0f7a4_10 : decode cJ6_bitCount_0f7a4 10 = .ok (.iload_n 0, 1) := by decide +kernel
theorem dJ6_bitCount_0f7a4_11 : decode cJ6_bitCount_0f7a4 11 = .ok (.ldc_w 266, 3) := by decide +kernel
theorem dJ6_bitCount_0f7a4_14 : decode cJ6_bitCount_0f7a4 14 = .ok (.iand, 1) := by decide +kernel
theorem dJ6_bitCount_0f7a4_15 : decode cJ6_bitCount_0f7a4 15 = .ok (.iload_n 0, 1) := by decide +kernel
theorem dJ6_bitCount_0f7a4_16 : decode cJ6_bitCount_0f7a4 16 = .ok (.iconst 2, 1) := by decide +kernel
theorem dJ6_bitCount_0f7a4_17 : decode cJ6_bitCount_0f7a4 17 = .ok (.iushr, 1) := by decide +kernel
theorem dJ6_bitCount_0f7a4_18 : decode cJ6_bitCount_0f7a4 18 = .ok (.ldc_w 266, 3) := by decide +kernel
theorem dJ6_bitCount_0f7a4_21 : decode cJ6_bitCount_0f7a4 21 = .ok (.iand, 1) := by decide +kernel
theorem dJ6_bitCount_0f7a4_22 : decode cJ6_bitCount_0f7a4 22 = .ok (.iadd, 1) := by decide +kernel
theorem dJ6_bitCount_0f7a4_23 : decode cJ6_bitCount_0f7a4 23 = .ok (.istore_n 0, 1) := by decide +kernel
theorem dJ6_bitCount_0f7a4_24 : decode cJ6_bitCount_0f7a4 24 = .ok (.iload_n 0, 1) := by decide +kernel
theorem dJ6_bitCount_0f7a4_25 : decode cJ6_bitCount_0f7a4 25 = .ok (.iload_n 0, 1) := by decide +kernel
theorem dJ6_bitCount_0f7a4_26 : decode cJ6_bitCount_0f7a4 26 = .ok (.iconst 4, 1) := by decide +kernel
theorem dJ6_bitCount_0f7a4_27 : decode cJ6_bitCount_0f7a4 27 = .ok (.iushr, 1) := by decide +kernel
theorem dJ6_bitCount_0f7a4_28 : decode cJ6_bitCount_0f7a4 28 = .ok (.iadd, 1) := by decide +kernel
theorem dJ6_bitCount_0f7a4_29 : decode cJ6_bitCount_0f7a4 29 = .ok (.ldc_w 267, 3) := by decide +kernel
theorem dJ6_bitCount_0f7a4_32 : decode cJ6_bitCount_0f7a4 32 = .ok (.iand, 1) := by decide +kernel
theorem dJ6_bitCount_0f7a4_33 : decode cJ6_bitCount_0f7a4 33 = .ok (.istore_n 0, 1) := by decide +kernel
theorem dJ6_bitCount_0f7a4_34 : decode cJ6_bitCount_0f7a4 34 = .ok (.iload_n 0, 1) := by decide +kernel
theorem dJ6_bitCount_0f7a4_35 : decode cJ6_bitCount_0f7a4 35 = .ok (.iload_n 0, 1) := by decide +kernel
theorem dJ6_bitCount_0f7a4_36 : decode cJ6_bitCount_0f7a4 36 = .ok (.bipush 8, 2) := by decide +kernel
theorem dJ6_bitCount_0f7a4_38 : decode cJ6_bitCount_0f7a4 38 = .ok (.iushr, 1) := by decide +kernel
theorem dJ6_bitCount_0f7a4_39 : decode cJ6_bitCount_0f7a4 39 = .ok (.iadd, 1) := by decide +kernel
theorem dJ6_bitCount_0f7a4_40 : decode cJ6_bitCount_0f7a4 40 = .ok (.istore_n 0, 1) := by decide +kernel
theorem dJ6_bitCount_0f7a4_41 : decode cJ6_bitCount_0f7a4 41 = .ok (.iload_n 0, 1) := by decide +kernel
theorem dJ6_bitCount_0f7a4_42 : decode cJ6_bitCount_0f7a4 42 = .ok (.iload_n 0, 1) := by decide +kernel
theorem dJ6_bitCount_0f7a4_43 : decode cJ6_bitCount_0f7a4 43 = .ok (.bipush 16, 2) := by decide +kernel
theorem dJ6_bitCount_0f7a4_45 : decode cJ6_bitCount_0f7a4 45 = .ok (.iushr, 1) := by decide +kernel
theorem dJ6_bitCount_0f7a4_46 : decode cJ6_bitCount_0f7a4 46 = .ok (.iadd, 1) := by decide +kernel
theorem dJ6_bitCount_0f7a4_47 : decode cJ6_bitCount_0f7a4 47 = .ok (.istore_n 0, 1) := by decide +kernel
theorem dJ6_bitCount_0f7a4_48 : decode cJ6_bitCount_0f7a4 48 = .ok (.iload_n 0, 1) := by decide +kernel
theorem dJ6_bitCount_0f7a4_49 : decode cJ6_bitCount_0f7a4 49 = .ok (.bipush 63, 2) := by decide +kernel
theorem dJ6_bitCount_0f7a4_51 : decode cJ6_bitCount_0f7a4 51 = .ok (.iand, 1) := by decide +kernel
theorem dJ6_bitCount_0f7a4_52 : decode cJ6_bitCount_0f7a4 52 = .ok (.ireturn, 1) := by decide +kernel
theorem dJ9_max_7cf53_0 : decode cJ9_max_7cf53 0 = .ok (.iload_n 0, 1) := by decide +kernel
theorem dJ9_max_7cf53_1 : decode cJ9_max_7cf53 1 = .ok (.iload_n 1, 1) := by decide +kernel
theorem dJ9_max_7cf53_2 : decode cJ9_max_7cf53 2 = .ok (.if_icmp .lt 7, 3) := by decide +kernel
theorem dJ9_max_7cf53_5 : decode cJ9_max_7cf53 5 = .ok (.iload_n 0, 1) := by decide +kernel
theorem dJ9_max_7cf53_6 : decode cJ9_max_7cf53 6 = .ok (.goto 4, 3) := by decide +kernel
theorem dJ9_max_7cf53_9 : decode cJ9_max_7cf53 9 = .ok (.iload_n 1, 1) := by decide +kernel
theorem dJ9_max_7cf53_10 : decode cJ9_max_7cf53 10 = .ok (.ireturn, 1) := by decide +kernel
theorem dJ9_min_7cf53_0 : decode cJ9_min_7cf53 0 = .ok (.iload_n 0, 1) := by decide +kernel
theorem dJ9_min_7cf53_1 : decode cJ9_min_7cf53 1 = .ok (.iload_n 1, 1) := by decide +kernel
theorem dJ9_min_7cf53_2 : decode cJ9_min_7cf53 2 = .ok (.if_icmp .gt 7, 3) := by decide +kernel
theorem dJ9_min_7cf53_5 : decode cJ9_min_7cf53 5 = .ok (.iload_n 0, 1) := by decide +kernel
theorem dJ9_min_7cf53_6 : decode cJ9_min_7cf53 6 = .ok (.goto 4, 3) := by decide +kernel
theorem dJ9_min_7cf53_9 : decode cJ9_min_7cf53 9 = .ok (.iload_n 1, 1) := by decide +kernel
theorem dJ9_min_7cf53_10 : decode cJ9_min_7cf53 10 = .ok (.ireturn, 1) := by decide +kernel
end
section
theorem dX8_init_0 : decode cX8_init 0 = .ok (.aload_n 0, 1) := by decide +kernel
theorem dX8_init_1 : decode cX8_init 1 = .ok (.invokespecial 1, 3) := by decide +kernel
theorem dX8_init_4 : decode cX8_init 4 = .ok (.aload_n 0, 1) := by decide +kernel
theorem dX8_init_5 : decode cX8_init 5 = .ok (.new 7, 3) := by decide +kernel
theorem dX8_init_8 : decode cX8_init 8 = .ok (.dup, 1) := by decide +kernel
theorem dX8_init_9 : decode cX8_init 9 = .ok (.invokespecial 9, 3) := by decide +kernel
theorem dX8_init_12 : decode cX8_init 12 = .ok (.putfield 10, 3) := by decide +kernel
theorem dX8_init_15 : decode cX8_init 15 = .ok (.aload_n 0, 1) := by decide +kernel
theorem dX8_init_16 : decode cX8_init 16 = .ok (.new 16, 3) := by decide +kernel
theorem dX8_init_19 : decode cX8_init 19 = .ok (.dup, 1) := by decide +kernel
theorem dX8_init_20 : decode cX8_init 20 = .ok (.invokespecial 18, 3) := by decide +kernel
theorem dX8_init_23 : decode cX8_init 23 = .ok (.putfield 19, 3) := by decide +kernel
theorem dX8_init_26 : decode cX8_init 26 = .ok (.aload_n 0, 1) := by decide +kernel
theorem dX8_init_27 : decode cX8_init 27 = .ok (.new 23, 3) := by decide +kernel
theorem dX8_init_30 : decode cX8_init 30 = .ok (.dup, 1) := by decide +kernel
theorem dX8_init_31 : decode cX8_init 31 = .ok (.invokespecial 25, 3) := by decide +kernel
theorem dX8_init_34 : decode cX8_init 34 = .ok (.putfield 26, 3) := by decide +kernel
theorem dX8_init_37 : decode cX8_init 37 = .ok (.aload_n 0, 1) := by decide +kernel
theorem dX8_init_38 : decode cX8_init 38 = .ok (.new 30, 3) := by decide +kernel
theorem dX8_init_41 : decode cX8_init 41 = .ok (.dup, 1) := by decide +kernel
theorem dX8_init_42 : decode cX8_init 42 = .ok (.invokespecial 32, 3) := by decide +kernel
theorem dX8_init_45 : decode cX8_init 45 = .ok (.putfield 33, 3) := by decide +kernel
theorem dX8_init_48 : decode cX8_init 48 = .ok (.aload_n 0, 1) := by decide +kernel
theorem dX8_init_49 : decode cX8_init 49 = .ok (.new 37, 3) := by decide +kernel
theorem dX8_init_52 : decode cX8_init 52 = .ok (.dup, 1) := by decide +kernel
theorem dX8_init_53 : decode cX8_init 53 = .ok (.invokespecial 39, 3) := by decide +kernel
theorem dX8_init_56 : decode cX8_init 56 = .ok (.putfield 40, 3) := by decide +kernel
theorem dX8_init_59 : decode cX8_init 59 = .ok (.aload_n 0, 1) := by decide +kernel
theorem dX8_init_60 : decode cX8_init 60 = .ok (.new 37, 3) := by decide +kernel
theorem dX8_init_63 : decode cX8_init 63 = .ok (.dup, 1) := by decide +kernel
theorem dX8_init_64 : decode cX8_init 64 = .ok (.invokespecial 39, 3) := by decide +kernel
theorem dX8_init_67 : decode cX8_init 67 = .ok (.putfield 44, 3) := by decide +kernel
theorem dX8_init_70 : decode cX8_init 70 = .ok (.aload_n 0, 1) := by decide +kernel
theorem dX8_init_71 : decode cX8_init 71 = .ok (.new 47, 3) := by decide +kernel
theorem dX8_init_74 : decode cX8_init 74 = .ok (.dup, 1) := by decide +kernel
theorem dX8_init_75 : decode cX8_init 75 = .ok (.invokespecial 49, 3) := by decide +kernel
theorem dX8_init_78 : decode cX8_init 78 = .ok (.putfield 50, 3) := by decide +kernel
theorem dX8_init_81 : decode cX8_init 81 = .ok (.aload_n 0, 1) := by decide +kernel
theorem dX8_init_82 : decode cX8_init 82 = .ok (.new 54, 3) := by decide +kernel
theorem dX8_init_85 : decode cX8_init 85 = .ok (.dup, 1) := by decide +kernel
theorem dX8_init_86 : decode cX8_init 86 = .ok (.invokespecial 56, 3) := by decide +kernel
theorem dX8_init_89 : decode cX8_init 89 = .ok (.putfield 57, 3) := by decide +kernel
theorem dX8_init_92 : decode cX8_init 92 = .ok (.aload_n 0, 1) := by decide +kernel
theorem dX8_init_93 : decode cX8_init 93 = .ok (.iconst 2, 1) := by decide +kernel
theorem dX8_init_94 : decode cX8_init 94 = .ok (.anewarray 61, 3) := by decide +kernel
theorem dX8_init_97 : decode cX8_init 97 = .ok (.putfield 63, 3) := by decide +kernel
theorem dX8_init_100 : decode cX8_init 100 = .ok (.aload_n 0, 1) := by decide +kernel
theorem dX8_init_101 : decode cX8_init 101 = .ok (.iconst 2, 1) := by decide +kernel
theorem dX8_init_102 : decode cX8_init 102 = .ok (.newarray .boolean, 2) := by decide +kernel
theorem dX8_init_104 : decode cX8_init 104 = .ok (.putfield 67, 3) := by decide +kernel
theorem dX8_init_107 : decode cX8_init 107 = .ok (.aload_n 0, 1) := by decide +kernel
theorem dX8_init_108 : decode cX8_init 108 = .ok (.lconst 0, 1) := by decide +kernel
theorem dX8_init_109 : decode cX8_init 109 = .ok (.putfield 71, 3) := by decide +kernel
theorem dX8_init_112 : decode cX8_init 112 = .ok (.iconst 0, 1) := by decide +kernel
theorem dX8_init_113 : decode cX8_init 113 = .ok (.istore_n 1, 1) := by decide +kernel
theorem dX8_init_114 : decode cX8_init 114 = .ok (.iload_n 1, 1) := by decide +kernel
theorem dX8_init_115 : decode cX8_init 115 = .ok (.iconst 2, 1) := by decide +kernel
theorem dX8_init_116 : decode cX8_init 116 = .ok (.if_icmp .ge 22, 3) := by decide +kernel
theorem dX8_init_119 : decode cX8_init 119 = .ok (.aload_n 0, 1) := by decide +kernel
theorem dX8_init_120 : decode cX8_init 120 = .ok (.getfield 63, 3) := by decide +kernel
theorem dX8_init_123 : decode cX8_init 123 = .ok (.iload_n 1, 1) := by decide +kernel
theorem dX8_init_124 : decode cX8_init 124 = .ok (.new 61, 3) := by decide +kernel
theorem dX8_init_127 : decode cX8_init 127 = .ok (.dup, 1) := by decide +kernel
theorem dX8_init_128 : decode cX8_init 128 = .ok (.invokespecial 75, 3) := by decide +kernel
theorem dX8_init_131 : decode cX8_init 131 = .ok (.aastore, 1) := by decide +kernel
theorem dX8_init_132 : decode cX8_init 132 = .ok (.iinc 1 1, 3) := by decide +kernel
theorem dX8_init_135 : decode cX8_init 135 = .ok (.goto (-21), 3) := by decide +kernel
theorem dX8_init_138 : decode cX8_init 138 = .ok (.return_, 1) := by decide +kernel
theorem dX8_type_0 : decode cX8_type 0 = .ok (.iload_n 1, 1) := by decide +kernel
theorem dX8_type_1 : decode cX8_type 1 = .ok (.iconst 0, 1) := by decide +kernel
theorem dX8_type_2 : decode cX8_type 2 = .ok (.sipush 255, 3) := by decide +kernel
theorem dX8_type_5 : decode cX8_type 5 = .ok (.invokestatic 76, 3) := by decide +kernel
theorem dX8_type_8 : decode cX8_type 8 = .ok (.ifCond .ne 5, 3) := by decide +kernel
theorem dX8_type_11 : decode cX8_type 11 = .ok (.iconst (-1), 1) := by decide +kernel
theorem dX8_type_12 : decode cX8_type 12 = .ok (.ireturn, 1) := by decide +kernel
theorem dX8_type_13 : decode cX8_type 13 = .ok (.aload_n 0, 1) := by decide +kernel
theorem dX8_type_14 : decode cX8_type 14 = .ok (.getfield 10, 3) := by decide +kernel
theorem dX8_type_17 : decode cX8_type 17 = .ok (.getfield 80, 3) := by decide +kernel
theorem dX8_type_20 : decode cX8_type 20 = .ok (.sipush 200, 3) := by decide +kernel
theorem dX8_type_23 : decode cX8_type 23 = .ok (.if_icmp .lt 6, 3) := by decide +kernel
theorem dX8_type_26 : decode cX8_type 26 = .ok (.bipush (-3), 2) := by decide +kernel
theorem dX8_type_28 : decode cX8_type 28 = .ok (.ireturn, 1) := by decide +kernel
theorem dX8_type_29 : decode cX8_type 29 = .ok (.aload_n 0, 1) := by decide +kernel
theorem dX8_type_30 : decode cX8_type 30 = .ok (.getfield 10, 3) := by decide +kernel
theorem dX8_type_33 : decode cX8_type 33 = .ok (.getfield 84, 3) := by decide +kernel
theorem dX8_type_36 : decode cX8_type 36 = .ok (.aload_n 0, 1) := by decide +kernel
theorem dX8_type_37 : decode cX8_type 37 = .ok (.getfield 10, 3) := by decide +kernel
theorem dX8_type_40 : decode cX8_type 40 = .ok (.getfield 80, 3) := by decide +kernel
theorem dX8_type_43 : decode cX8_type 43 = .ok (.iload_n 1, 1) := by decide +kernel
theorem dX8_type_44 : decode cX8_type 44 = .ok (.iastore, 1) := by decide +kernel
theorem dX8_type_45 : decode cX8_type 45 = .ok (.aload_n 0, 1) := by decide +kernel
theorem dX8_type_46 : decode cX8_type 46 = .ok (.getfield 10, 3) := by decide +kernel
theorem dX8_type_49 : decode cX8_type 49 = .ok (.dup, 1) := by decide +kernel
theorem dX8_type_50 : decode cX8_type 50 = .ok (.getfield 80, 3) := by decide +kernel
theorem dX8_type_53 : decode cX8_type 53 = .ok (.iconst 1, 1) := by decide +kernel
theorem dX8_type_54 : decode cX8_type 54 = .ok (.iadd, 1) := by decide +kernel
theorem dX8_type_55 : decode cX8_type 55 = .ok (.putfield 80, 3) := by decide +kernel
theorem dX8_type_58 : decode cX8_type 58 = .ok (.aload_n 0, 1) := by decide +kernel
theorem dX8_type_59 : decode cX8_type 59 = .ok (.getfield 10, 3) := by decide +kernel
theorem dX8_type_62 : decode cX8_type 62 = .ok (.getfield 80, 3) := by decide +kernel
theorem dX8_type_65 : decode cX8_type 65 = .ok (.ireturn, 1) := by decide +kernel
theorem dX8_clear_0 : decode cX8_clear 0 = .ok (.aload_n 0, 1) := by decide +kernel
theorem dX8_clear_1 : decode cX8_clear 1 = .ok (.getfield 10, 3) := by decide +kernel
theorem dX8_clear_4 : decode cX8_clear 4 = .ok (.getfield 80, 3) := by decide +kernel
theorem dX8_clear_7 : decode cX8_clear 7 = .ok (.istore_n 1, 1) := by decide +kernel
theorem dX8_clear_8 : decode cX8_clear 8 = .ok (.aload_n 0, 1) := by decide +kernel
theorem dX8_clear_9 : decode cX8_clear 9 = .ok (.getfield 10, 3) := by decide +kernel
theorem dX8_clear_12 : decode cX8_clear 12 = .ok (.iconst 0, 1) := by decide +kernel
theorem dX8_clear_13 : decode cX8_clear 13 = .ok (.putfield 80, 3) := by decide +kernel
theorem dX8_clear_16 : decode cX8_clear 16 = .ok (.iload_n 1, 1) := by decide +kernel
theorem dX8_clear_17 : decode cX8_clear 17 = .ok (.ireturn, 1) := by decide +kernel
theorem dX8_republic_0 : decode cX8_republic 0 = .ok (.aload_n 0, 1) := by decide +kernel
theorem dX8_republic_1 : decode cX8_republic 1 = .ok (.getfield 19, 3) := by decide +kernel
theorem dX8_republic_4 : decode cX8_republic 4 = .ok (.aload_n 0, 1) := by decide +kernel
theorem dX8_republic_5 : decode cX8_republic 5 = .ok (.getfield 10, 3) := by decide +kernel
theorem dX8_republic_8 : decode cX8_republic 8 = .ok (.invokevirtual 88, 3) := by decide +kernel
theorem dX8_republic_11 : decode cX8_republic 11 = .ok (.istore_n 1, 1) := by decide +kernel
theorem dX8_republic_12 : decode cX8_republic 12 = .ok (.iload_n 1, 1) := by decide +kernel
theorem dX8_republic_13 : decode cX8_republic 13 = .ok (.ifCond .ge 5, 3) := by decide +kernel
theorem dX8_republic_16 : decode cX8_republic 16 = .ok (.iload_n 1, 1) := by decide +kernel
theorem dX8_republic_17 : decode cX8_republic 17 = .ok (.ireturn, 1) := by decide +kernel
theorem dX8_republic_18 : decode cX8_republic 18 = .ok (.aload_n 0, 1) := by decide +kernel
theorem dX8_republic_19 : decode cX8_republic 19 = .ok (.getfield 26, 3) := by decide +kernel
theorem dX8_republic_22 : decode cX8_republic 22 = .ok (.aload_n 0, 1) := by decide +kernel
theorem dX8_republic_23 : decode cX8_republic 23 = .ok (.getfield 19, 3) := by decide +kernel
theorem dX8_republic_26 : decode cX8_republic 26 = .ok (.getfield 92, 3) := by decide +kernel
theorem dX8_republic_29 : decode cX8_republic 29 = .ok (.invokevirtual 95, 3) := by decide +kernel
theorem dX8_republic_32 : decode cX8_republic 32 = .ok (.aload_n 0, 1) := by decide +kernel
theorem dX8_republic_33 : decode cX8_republic 33 = .ok (.getfield 33, 3) := by decide +kernel
theorem dX8_republic_36 : decode cX8_republic 36 = .ok (.iconst 0, 1) := by decide +kernel
theorem dX8_republic_37 : decode cX8_republic 37 = .ok (.putfield 99, 3) := by decide +kernel
theorem dX8_republic_40 : decode cX8_republic 40 = .ok (.aload_n 0, 1) := by decide +kernel
theorem dX8_republic_41 : decode cX8_republic 41 = .ok (.getfield 40, 3) := by decide +kernel
theorem dX8_republic_44 : decode cX8_republic 44 = .ok (.iconst 0, 1) := by decide +kernel
theorem dX8_republic_45 : decode cX8_republic 45 = .ok (.putfield 102, 3) := by decide +kernel
theorem dX8_republic_48 : decode cX8_republic 48 = .ok (.aload_n 0, 1) := by decide +kernel
theorem dX8_republic_49 : decode cX8_republic 49 = .ok (.getfield 44, 3) := by decide +kernel
theorem dX8_republic_52 : decode cX8_republic 52 = .ok (.iconst 0, 1) := by decide +kernel
theorem dX8_republic_53 : decode cX8_republic 53 = .ok (.putfield 102, 3) := by decide +kernel
theorem dX8_republic_56 : decode cX8_republic 56 = .ok (.iconst 0, 1) := by decide +kernel
theorem dX8_republic_57 : decode cX8_republic 57 = .ok (.istore_n 2, 1) := by decide +kernel
theorem dX8_republic_58 : decode cX8_republic 58 = .ok (.iload_n 2, 1) := by decide +kernel
theorem dX8_republic_59 : decode cX8_republic 59 = .ok (.iconst 2, 1) := by decide +kernel
theorem dX8_republic_60 : decode cX8_republic 60 = .ok (.if_icmp .ge 16, 3) := by decide +kernel
theorem dX8_republic_63 : decode cX8_republic 63 = .ok (.aload_n 0, 1) := by decide +kernel
theorem dX8_republic_64 : decode cX8_republic 64 = .ok (.getfield 67, 3) := by decide +kernel
theorem dX8_republic_67 : decode cX8_republic 67 = .ok (.iload_n 2, 1) := by decide +kernel
theorem dX8_republic_68 : decode cX8_republic 68 = .ok (.iconst 0, 1) := by decide +kernel
theorem dX8_republic_69 : decode cX8_republic 69 = .ok (.bastore, 1) := by decide +kernel
theorem dX8_republic_70 : decode cX8_republic 70 = .ok (.iinc 2 1, 3) := by decide +kernel
theorem dX8_republic_73 : decode cX8_republic 73 = .ok (.goto (-15), 3) := by decide +kernel
theorem dX8_republic_76 : decode cX8_republic 76 = .ok (.aload_n 0, 1) := by decide +kernel
theorem dX8_republic_77 : decode cX8_republic 77 = .ok (.getfield 10, 3) := by decide +kernel
theorem dX8_republic_80 : decode cX8_republic 80 = .ok (.iconst 0, 1) := by decide +kernel
theorem dX8_republic_81 : decode cX8_republic 81 = .ok (.putfield 80, 3) := by decide +kernel
theorem dX8_republic_84 : decode cX8_republic 84 = .ok (.iload_n 1, 1) := by decide +kernel
theorem dX8_republic_85 : decode cX8_republic 85 = .ok (.ireturn, 1) := by decide +kernel
theorem dX8_person_0 : decode cX8_person 0 = .ok (.aload_n 0, 1) := by decide +kernel
theorem dX8_person_1 : decode cX8_person 1 = .ok (.getfield 26, 3) := by decide +kernel
theorem dX8_person_4 : decode cX8_person 4 = .ok (.iload_n 1, 1) := by decide +kernel
theorem dX8_person_5 : decode cX8_person 5 = .ok (.invokevirtual 103, 3) := by decide +kernel
theorem dX8_person_8 : decode cX8_person 8 = .ok (.ifCond .ne 5, 3) := by decide +kernel
theorem dX8_person_11 : decode cX8_person 11 = .ok (.iconst (-1), 1) := by decide +kernel
theorem dX8_person_12 : decode cX8_person 12 = .ok (.ireturn, 1) := by decide +kernel
theorem dX8_person_13 : decode cX8_person 13 = .ok (.iload_n 2, 1) := by decide +kernel
theorem dX8_person_14 : decode cX8_person 14 = .ok (.tableswitch 140 0 7 #[46, 59, 72, 82, 97, 109, 122, 131], 46) := by decide +kernel
theorem dX8_person_60 : decode cX8_person 60 = .ok (.aload_n 0, 1) := by decide +kernel
theorem dX8_person_61 : decode cX8_person 61 = .ok (.getfield 26, 3) := by decide +kernel
theorem dX8_person_64 : decode cX8_person 64 = .ok (.getfield 107, 3) := by decide +kernel
theorem dX8_person_67 : decode cX8_person 67 = .ok (.getfield 111, 3) := by decide +kernel
theorem dX8_person_70 : decode cX8_person 70 = .ok (.iload_n 1, 1) := by decide +kernel
theorem dX8_person_71 : decode cX8_person 71 = .ok (.iaload, 1) := by decide +kernel
theorem dX8_person_72 : decode cX8_person 72 = .ok (.ireturn, 1) := by decide +kernel
theorem dX8_person_73 : decode cX8_person 73 = .ok (.aload_n 0, 1) := by decide +kernel
theorem dX8_person_74 : decode cX8_person 74 = .ok (.getfield 26, 3) := by decide +kernel
theorem dX8_person_77 : decode cX8_person 77 = .ok (.getfield 107, 3) := by decide +kernel
theorem dX8_person_80 : decode cX8_person 80 = .ok (.getfield 114, 3) := by decide +kernel
theorem dX8_person_83 : decode cX8_person 83 = .ok (.iload_n 1, 1) := by decide +kernel
theorem dX8_person_84 : decode cX8_person 84 = .ok (.iaload, 1) := by decide +kernel
theorem dX8_person_85 : decode cX8_person 85 = .ok (.ireturn, 1) := by decide +kernel
theorem dX8_person_86 : decode cX8_person 86 = .ok (.aload_n 0, 1) := by decide +kernel
theorem dX8_person_87 : decode cX8_person 87 = .ok (.getfield 26, 3) := by decide +kernel
theorem dX8_person_90 : decode cX8_person 90 = .ok (.getfield 117, 3) := by decide +kernel
theorem dX8_person_93 : decode cX8_person 93 = .ok (.iload_n 1, 1) := by decide +kernel
theorem dX8_person_94 : decode cX8_person 94 = .ok (.iaload, 1) := by decide +kernel
theorem dX8_person_95 : decode cX8_person 95 = .ok (.ireturn, 1) := by decide +kernel
theorem dX8_person_96 : decode cX8_person 96 = .ok (.aload_n 0, 1) := by decide +kernel
theorem dX8_person_97 : decode cX8_person 97 = .ok (.getfield 26, 3) := by decide +kernel
theorem dX8_person_100 : decode cX8_person 100 = .ok (.getfield 107, 3) := by decide +kernel
theorem dX8_person_103 : decode cX8_person 103 = .ok (.getfield 120, 3) := by decide +kernel
theorem dX8_person_106 : decode cX8_person 106 = .ok (.iload_n 1, 1) := by decide +kernel
theorem dX8_person_107 : decode cX8_person 107 = .ok (.invokestatic 123, 3) := by decide +kernel
theorem dX8_person_110 : decode cX8_person 110 = .ok (.ireturn, 1) := by decide +kernel
theorem dX8_person_111 : decode cX8_person 111 = .ok (.aload_n 0, 1) := by decide +kernel
theorem dX8_person_112 : decode cX8_person 112 = .ok (.getfield 26, 3) := by decide +kernel
theorem dX8_person_115 : decode cX8_person 115 = .ok (.invokevirtual 127, 3) := by decide +kernel
theorem dX8_person_118 : decode cX8_person 118 = .ok (.iload_n 1, 1) := by decide +kernel
theorem dX8_person_119 : decode cX8_person 119 = .ok (.invokestatic 123, 3) := by decide +kernel
theorem dX8_person_122 : decode cX8_person 122 = .ok (.ireturn, 1) := by decide +kernel
theorem dX8_person_123 : decode cX8_person 123 = .ok (.aload_n 0, 1) := by decide +kernel
theorem dX8_person_124 : decode cX8_person 124 = .ok (.getfield 26, 3) := by decide +kernel
theorem dX8_person_127 : decode cX8_person 127 = .ok (.getfield 107, 3) := by decide +kernel
theorem dX8_person_130 : decode cX8_person 130 = .ok (.getfield 131, 3) := by decide +kernel
theorem dX8_person_133 : decode cX8_person 133 = .ok (.iload_n 1, 1) := by decide +kernel
theorem dX8_person_134 : decode cX8_person 134 = .ok (.iaload, 1) := by decide +kernel
theorem dX8_person_135 : decode cX8_person 135 = .ok (.ireturn, 1) := by decide +kernel
theorem dX8_person_136 : decode cX8_person 136 = .ok (.aload_n 0, 1) := by decide +kernel
theorem dX8_person_137 : decode cX8_person 137 = .ok (.getfield 26, 3) := by decide +kernel
theorem dX8_person_140 : decode cX8_person 140 = .ok (.iload_n 1, 1) := by decide +kernel
theorem dX8_person_141 : decode cX8_person 141 = .ok (.invokevirtual 134, 3) := by decide +kernel
theorem dX8_person_144 : decode cX8_person 144 = .ok (.ireturn, 1) := by decide +kernel
theorem dX8_person_145 : decode cX8_person 145 = .ok (.aload_n 0, 1) := by decide +kernel
theorem dX8_person_146 : decode cX8_person 146 = .ok (.getfield 26, 3) := by decide +kernel
theorem dX8_person_149 : decode cX8_person 149 = .ok (.iload_n 1, 1) := by decide +kernel
theorem dX8_person_150 : decode cX8_person 150 = .ok (.invokevirtual 138, 3) := by decide +kernel
theorem dX8_person_153 : decode cX8_person 153 = .ok (.ireturn, 1) := by decide +kernel
theorem dX8_person_154 : decode cX8_person 154 = .ok (.iconst (-1), 1) := by decide +kernel
theorem dX8_person_155 : decode cX8_person 155 = .ok (.ireturn, 1) := by decide +kernel
theorem dX8_quarrels_0 : decode cX8_quarrels 0 = .ok (.aload_n 0, 1) := by decide +kernel
theorem dX8_quarrels_1 : decode cX8_quarrels 1 = .ok (.getfield 26, 3) := by decide +kernel
theorem dX8_quarrels_4 : decode cX8_quarrels 4 = .ok (.iload_n 1, 1) := by decide +kernel
theorem dX8_quarrels_5 : decode cX8_quarrels 5 = .ok (.invokevirtual 103, 3) := by decide +kernel
theorem dX8_quarrels_8 : decode cX8_quarrels 8 = .ok (.ifCond .eq 15, 3) := by decide +kernel
theorem dX8_quarrels_11 : decode cX8_quarrels 11 = .ok (.aload_n 0, 1) := by decide +kernel
theorem dX8_quarrels_12 : decode cX8_quarrels 12 = .ok (.getfield 26, 3) := by decide +kernel
theorem dX8_quarrels_15 : decode cX8_quarrels 15 = .ok (.getfield 141, 3) := by decide +kernel
theorem dX8_quarrels_18 : decode cX8_quarrels 18 = .ok (.iload_n 1, 1) := by decide +kernel
theorem dX8_quarrels_19 : decode cX8_quarrels 19 = .ok (.iaload, 1) := by decide +kernel
theorem dX8_quarrels_20 : decode cX8_quarrels 20 = .ok (.goto 4, 3) := by decide +kernel
theorem dX8_quarrels_23 : decode cX8_quarrels 23 = .ok (.iconst (-1), 1) := by decide +kernel
theorem dX8_quarrels_24 : decode cX8_quarrels 24 = .ok (.ireturn, 1) := by decide +kernel
theorem dX8_name_0 : decode cX8_name 0 = .ok (.aload_n 0, 1) := by decide +kernel
theorem dX8_name_1 : decode cX8_name 1 = .ok (.getfield 26, 3) := by decide +kernel
theorem dX8_name_4 : decode cX8_name 4 = .ok (.iload_n 1, 1) := by decide +kernel
theorem dX8_name_5 : decode cX8_name 5 = .ok (.invokevirtual 144, 3) := by decide +kernel
theorem dX8_name_8 : decode cX8_name 8 = .ok (.ifCond .ne 5, 3) := by decide +kernel
theorem dX8_name_11 : decode cX8_name 11 = .ok (.iconst (-1), 1) := by decide +kernel
theorem dX8_name_12 : decode cX8_name 12 = .ok (.ireturn, 1) := by decide +kernel
theorem dX8_name_13 : decode cX8_name 13 = .ok (.aload_n 0, 1) := by decide +kernel
theorem dX8_name_14 : decode cX8_name 14 = .ok (.getfield 26, 3) := by decide +kernel
theorem dX8_name_17 : decode cX8_name 17 = .ok (.iload_n 1, 1) := by decide +kernel
theorem dX8_name_18 : decode cX8_name 18 = .ok (.invokevirtual 147, 3) := by decide +kernel
theorem dX8_name_21 : decode cX8_name 21 = .ok (.istore_n 3, 1) := by decide +kernel
theorem dX8_name_22 : decode cX8_name 22 = .ok (.iconst 1, 1) := by decide +kernel
theorem dX8_name_23 : decode cX8_name 23 = .ok (.iload_n 3, 1) := by decide +kernel
theorem dX8_name_24 : decode cX8_name 24 = .ok (.invokestatic 150, 3) := by decide +kernel
theorem dX8_name_27 : decode cX8_name 27 = .ok (.invokestatic 155, 3) := by decide +kernel
theorem dX8_name_30 : decode cX8_name 30 = .ok (.istore 4, 2) := by decide +kernel
theorem dX8_name_32 : decode cX8_name 32 = .ok (.iload_n 2, 1) := by decide +kernel
theorem dX8_name_33 : decode cX8_name 33 = .ok (.tableswitch 57 0 2 #[27, 29, 43], 27) := by decide +kernel
theorem dX8_name_60 : decode cX8_name 60 = .ok (.iload_n 3, 1) := by decide +kernel
theorem dX8_name_61 : decode cX8_name 61 = .ok (.ireturn, 1) := by decide +kernel
theorem dX8_name_62 : decode cX8_name 62 = .ok (.aload_n 0, 1) := by decide +kernel
theorem dX8_name_63 : decode cX8_name 63 = .ok (.getfield 26, 3) := by decide +kernel
theorem dX8_name_66 : decode cX8_name 66 = .ok (.iload_n 3, 1) := by decide +kernel
theorem dX8_name_67 : decode cX8_name 67 = .ok (.invokevirtual 160, 3) := by decide +kernel
theorem dX8_name_70 : decode cX8_name 70 = .ok (.iload 4, 2) := by decide +kernel
theorem dX8_name_72 : decode cX8_name 72 = .ok (.invokestatic 163, 3) := by decide +kernel
theorem dX8_name_75 : decode cX8_name 75 = .ok (.ireturn, 1) := by decide +kernel
theorem dX8_name_76 : decode cX8_name 76 = .ok (.iload 4, 2) := by decide +kernel
theorem dX8_name_78 : decode cX8_name 78 = .ok (.aload_n 0, 1) := by decide +kernel
theorem dX8_name_79 : decode cX8_name 79 = .ok (.getfield 26, 3) := by decide +kernel
theorem dX8_name_82 : decode cX8_name 82 = .ok (.iload_n 3, 1) := by decide +kernel
theorem dX8_name_83 : decode cX8_name 83 = .ok (.invokevirtual 160, 3) := by decide +kernel
theorem dX8_name_86 : decode cX8_name 86 = .ok (.invokestatic 163, 3) := by decide +kernel
theorem dX8_name_89 : decode cX8_name 89 = .ok (.ireturn, 1) := by decide +kernel
theorem dX8_name_90 : decode cX8_name 90 = .ok (.iconst (-1), 1) := by decide +kernel
theorem dX8_name_91 : decode cX8_name 91 = .ok (.ireturn, 1) := by decide +kernel
theorem dX8_bill_0 : decode cX8_bill 0 = .ok (.iload_n 1, 1) := by decide +kernel
theorem dX8_bill_1 : decode cX8_bill 1 = .ok (.iconst 0, 1) := by decide +kernel
theorem dX8_bill_2 : decode cX8_bill 2 = .ok (.iconst 4, 1) := by decide +kernel
theorem dX8_bill_3 : decode cX8_bill 3 = .ok (.invokestatic 76, 3) := by decide +kernel
theorem dX8_bill_6 : decode cX8_bill 6 = .ok (.ifCond .ne 5, 3) := by decide +kernel
theorem dX8_bill_9 : decode cX8_bill 9 = .ok (.iconst (-1), 1) := by decide +kernel
theorem dX8_bill_10 : decode cX8_bill 10 = .ok (.ireturn, 1) := by decide +kernel
theorem dX8_bill_11 : decode cX8_bill 11 = .ok (.aload_n 0, 1) := by decide +kernel
theorem dX8_bill_12 : decode cX8_bill 12 = .ok (.getfield 26, 3) := by decide +kernel
theorem dX8_bill_15 : decode cX8_bill 15 = .ok (.getfield 107, 3) := by decide +kernel
theorem dX8_bill_18 : decode cX8_bill 18 = .ok (.getfield 166, 3) := by decide +kernel
theorem dX8_bill_21 : decode cX8_bill 21 = .ok (.istore_n 3, 1) := by decide +kernel
theorem dX8_bill_22 : decode cX8_bill 22 = .ok (.iload_n 2, 1) := by decide +kernel
theorem dX8_bill_23 : decode cX8_bill 23 = .ok (.tableswitch 82 0 3 #[29, 41, 53, 73], 29) := by decide +kernel
theorem dX8_bill_52 : decode cX8_bill 52 = .ok (.aload_n 0, 1) := by decide +kernel
theorem dX8_bill_53 : decode cX8_bill 53 = .ok (.getfield 26, 3) := by decide +kernel
theorem dX8_bill_56 : decode cX8_bill 56 = .ok (.iload_n 1, 1) := by decide +kernel
theorem dX8_bill_57 : decode cX8_bill 57 = .ok (.iload_n 3, 1) := by decide +kernel
theorem dX8_bill_58 : decode cX8_bill 58 = .ok (.bipush (-9), 2) := by decide +kernel
theorem dX8_bill_60 : decode cX8_bill 60 = .ok (.invokevirtual 169, 3) := by decide +kernel
theorem dX8_bill_63 : decode cX8_bill 63 = .ok (.ireturn, 1) := by decide +kernel
theorem dX8_bill_64 : decode cX8_bill 64 = .ok (.aload_n 0, 1) := by decide +kernel
theorem dX8_bill_65 : decode cX8_bill 65 = .ok (.getfield 26, 3) := by decide +kernel
theorem dX8_bill_68 : decode cX8_bill 68 = .ok (.iload_n 1, 1) := by decide +kernel
theorem dX8_bill_69 : decode cX8_bill 69 = .ok (.iload_n 3, 1) := by decide +kernel
theorem dX8_bill_70 : decode cX8_bill 70 = .ok (.bipush (-9), 2) := by decide +kernel
theorem dX8_bill_72 : decode cX8_bill 72 = .ok (.invokevirtual 173, 3) := by decide +kernel
theorem dX8_bill_75 : decode cX8_bill 75 = .ok (.ireturn, 1) := by decide +kernel
theorem dX8_bill_76 : decode cX8_bill 76 = .ok (.aload_n 0, 1) := by decide +kernel
theorem dX8_bill_77 : decode cX8_bill 77 = .ok (.getfield 26, 3) := by decide +kernel
theorem dX8_bill_80 : decode cX8_bill 80 = .ok (.iload_n 1, 1) := by decide +kernel
theorem dX8_bill_81 : decode cX8_bill 81 = .ok (.iload_n 3, 1) := by decide +kernel
theorem dX8_bill_82 : decode cX8_bill 82 = .ok (.bipush (-9), 2) := by decide +kernel
theorem dX8_bill_84 : decode cX8_bill 84 = .ok (.invokevirtual 176, 3) := by decide +kernel
theorem dX8_bill_87 : decode cX8_bill 87 = .ok (.ifCond .eq 7, 3) := by decide +kernel
theorem dX8_bill_90 : decode cX8_bill 90 = .ok (.iconst 1, 1) := by decide +kernel
theorem dX8_bill_91 : decode cX8_bill 91 = .ok (.goto 4, 3) := by decide +kernel
theorem dX8_bill_94 : decode cX8_bill 94 = .ok (.iconst 0, 1) := by decide +kernel
theorem dX8_bill_95 : decode cX8_bill 95 = .ok (.ireturn, 1) := by decide +kernel
theorem dX8_bill_96 : decode cX8_bill 96 = .ok (.aload_n 0, 1) := by decide +kernel
theorem dX8_bill_97 : decode cX8_bill 97 = .ok (.getfield 26, 3) := by decide +kernel
theorem dX8_bill_100 : decode cX8_bill 100 = .ok (.iload_n 1, 1) := by decide +kernel
theorem dX8_bill_101 : decode cX8_bill 101 = .ok (.invokevirtual 179, 3) := by decide +kernel
theorem dX8_bill_104 : decode cX8_bill 104 = .ok (.ireturn, 1) := by decide +kernel
theorem dX8_bill_105 : decode cX8_bill 105 = .ok (.iconst (-1), 1) := by decide +kernel
theorem dX8_bill_106 : decode cX8_bill 106 = .ok (.ireturn, 1) := by decide +kernel
theorem dX8_now_0 : decode cX8_now 0 = .ok (.iload_n 1, 1) := by decide +kernel
theorem dX8_now_1 : decode cX8_now 1 = .ok (.tableswitch 120 0 7 #[47, 58, 69, 80, 88, 96, 104, 112], 47) := by decide +kernel
theorem dX8_now_48 : decode cX8_now 48 = .ok (.aload_n 0, 1) := by decide +kernel
theorem dX8_now_49 : decode cX8_now 49 = .ok (.getfield 26, 3) := by decide +kernel
theorem dX8_now_52 : decode cX8_now 52 = .ok (.getfield 107, 3) := by decide +kernel
theorem dX8_now_55 : decode cX8_now 55 = .ok (.getfield 182, 3) := by decide +kernel
theorem dX8_now_58 : decode cX8_now 58 = .ok (.ireturn, 1) := by decide +kernel
theorem dX8_now_59 : decode cX8_now 59 = .ok (.aload_n 0, 1) := by decide +kernel
theorem dX8_now_60 : decode cX8_now 60 = .ok (.getfield 26, 3) := by decide +kernel
theorem dX8_now_63 : decode cX8_now 63 = .ok (.getfield 107, 3) := by decide +kernel
theorem dX8_now_66 : decode cX8_now 66 = .ok (.getfield 185, 3) := by decide +kernel
theorem dX8_now_69 : decode cX8_now 69 = .ok (.ireturn, 1) := by decide +kernel
theorem dX8_now_70 : decode cX8_now 70 = .ok (.aload_n 0, 1) := by decide +kernel
theorem dX8_now_71 : decode cX8_now 71 = .ok (.getfield 26, 3) := by decide +kernel
theorem dX8_now_74 : decode cX8_now 74 = .ok (.getfield 107, 3) := by decide +kernel
theorem dX8_now_77 : decode cX8_now 77 = .ok (.getfield 166, 3) := by decide +kernel
theorem dX8_now_80 : decode cX8_now 80 = .ok (.ireturn, 1) := by decide +kernel
theorem dX8_now_81 : decode cX8_now 81 = .ok (.aload_n 0, 1) := by decide +kernel
theorem dX8_now_82 : decode cX8_now 82 = .ok (.getfield 26, 3) := by decide +kernel
theorem dX8_now_85 : decode cX8_now 85 = .ok (.invokevirtual 127, 3) := by decide +kernel
theorem dX8_now_88 : decode cX8_now 88 = .ok (.ireturn, 1) := by decide +kernel
theorem dX8_now_89 : decode cX8_now 89 = .ok (.aload_n 0, 1) := by decide +kernel
theorem dX8_now_90 : decode cX8_now 90 = .ok (.getfield 26, 3) := by decide +kernel
theorem dX8_now_93 : decode cX8_now 93 = .ok (.invokevirtual 188, 3) := by decide +kernel
theorem dX8_now_96 : decode cX8_now 96 = .ok (.ireturn, 1) := by decide +kernel
theorem dX8_now_97 : decode cX8_now 97 = .ok (.aload_n 0, 1) := by decide +kernel
theorem dX8_now_98 : decode cX8_now 98 = .ok (.getfield 26, 3) := by decide +kernel
theorem dX8_now_101 : decode cX8_now 101 = .ok (.invokevirtual 191, 3) := by decide +kernel
theorem dX8_now_104 : decode cX8_now 104 = .ok (.ireturn, 1) := by decide +kernel
theorem dX8_now_105 : decode cX8_now 105 = .ok (.aload_n 0, 1) := by decide +kernel
theorem dX8_now_106 : decode cX8_now 106 = .ok (.getfield 26, 3) := by decide +kernel
theorem dX8_now_109 : decode cX8_now 109 = .ok (.invokevirtual 194, 3) := by decide +kernel
theorem dX8_now_112 : decode cX8_now 112 = .ok (.ireturn, 1) := by decide +kernel
theorem dX8_now_113 : decode cX8_now 113 = .ok (.aload_n 0, 1) := by decide +kernel
theorem dX8_now_114 : decode cX8_now 114 = .ok (.getfield 33, 3) := by decide +kernel
theorem dX8_now_117 : decode cX8_now 117 = .ok (.getfield 99, 3) := by decide +kernel
theorem dX8_now_120 : decode cX8_now 120 = .ok (.ireturn, 1) := by decide +kernel
theorem dX8_now_121 : decode cX8_now 121 = .ok (.iconst (-1), 1) := by decide +kernel
theorem dX8_now_122 : decode cX8_now 122 = .ok (.ireturn, 1) := by decide +kernel
theorem dX8_hurts_0 : decode cX8_hurts 0 = .ok (.aload_n 0, 1) := by decide +kernel
theorem dX8_hurts_1 : decode cX8_hurts 1 = .ok (.getfield 26, 3) := by decide +kernel
theorem dX8_hurts_4 : decode cX8_hurts 4 = .ok (.iload_n 1, 1) := by decide +kernel
theorem dX8_hurts_5 : decode cX8_hurts 5 = .ok (.invokevirtual 103, 3) := by decide +kernel
theorem dX8_hurts_8 : decode cX8_hurts 8 = .ok (.ifCond .eq 12, 3) := by decide +kernel
theorem dX8_hurts_11 : decode cX8_hurts 11 = .ok (.iload_n 2, 1) := by decide +kernel
theorem dX8_hurts_12 : decode cX8_hurts 12 = .ok (.iconst 0, 1) := by decide +kernel
theorem dX8_hurts_13 : decode cX8_hurts 13 = .ok (.iconst 1, 1) := by decide +kernel
theorem dX8_hurts_14 : decode cX8_hurts 14 = .ok (.invokestatic 76, 3) := by decide +kernel
theorem dX8_hurts_17 : decode cX8_hurts 17 = .ok (.ifCond .ne 5, 3) := by decide +kernel
theorem dX8_hurts_20 : decode cX8_hurts 20 = .ok (.iconst (-1), 1) := by decide +kernel
theorem dX8_hurts_21 : decode cX8_hurts 21 = .ok (.ireturn, 1) := by decide +kernel
theorem dX8_hurts_22 : decode cX8_hurts 22 = .ok (.aload_n 0, 1) := by decide +kernel
theorem dX8_hurts_23 : decode cX8_hurts 23 = .ok (.getfield 33, 3) := by decide +kernel
theorem dX8_hurts_26 : decode cX8_hurts 26 = .ok (.aload_n 0, 1) := by decide +kernel
theorem dX8_hurts_27 : decode cX8_hurts 27 = .ok (.getfield 26, 3) := by decide +kernel
theorem dX8_hurts_30 : decode cX8_hurts 30 = .ok (.getfield 107, 3) := by decide +kernel
theorem dX8_hurts_33 : decode cX8_hurts 33 = .ok (.invokevirtual 197, 3) := by decide +kernel
theorem dX8_hurts_36 : decode cX8_hurts 36 = .ok (.aload_n 0, 1) := by decide +kernel
theorem dX8_hurts_37 : decode cX8_hurts 37 = .ok (.getfield 26, 3) := by decide +kernel
theorem dX8_hurts_40 : decode cX8_hurts 40 = .ok (.getfield 107, 3) := by decide +kernel
theorem dX8_hurts_43 : decode cX8_hurts 43 = .ok (.getfield 120, 3) := by decide +kernel
theorem dX8_hurts_46 : decode cX8_hurts 46 = .ok (.iload_n 1, 1) := by decide +kernel
theorem dX8_hurts_47 : decode cX8_hurts 47 = .ok (.invokestatic 123, 3) := by decide +kernel
theorem dX8_hurts_50 : decode cX8_hurts 50 = .ok (.istore_n 3, 1) := by decide +kernel
theorem dX8_hurts_51 : decode cX8_hurts 51 = .ok (.aload_n 0, 1) := by decide +kernel
theorem dX8_hurts_52 : decode cX8_hurts 52 = .ok (.getfield 26, 3) := by decide +kernel
theorem dX8_hurts_55 : decode cX8_hurts 55 = .ok (.getfield 107, 3) := by decide +kernel
theorem dX8_hurts_58 : decode cX8_hurts 58 = .ok (.aload_n 0, 1) := by decide +kernel
theorem dX8_hurts_59 : decode cX8_hurts 59 = .ok (.getfield 26, 3) := by decide +kernel
theorem dX8_hurts_62 : decode cX8_hurts 62 = .ok (.getfield 107, 3) := by decide +kernel
theorem dX8_hurts_65 : decode cX8_hurts 65 = .ok (.getfield 120, 3) := by decide +kernel
theorem dX8_hurts_68 : decode cX8_hurts 68 = .ok (.iconst 1, 1) := by decide +kernel
theorem dX8_hurts_69 : decode cX8_hurts 69 = .ok (.iload_n 1, 1) := by decide +kernel
theorem dX8_hurts_70 : decode cX8_hurts 70 = .ok (.ishl, 1) := by decide +kernel
theorem dX8_hurts_71 : decode cX8_hurts 71 = .ok (.iconst (-1), 1) := by decide +kernel
theorem dX8_hurts_72 : decode cX8_hurts 72 = .ok (.ixor, 1) := by decide +kernel
theorem dX8_hurts_73 : decode cX8_hurts 73 = .ok (.iand, 1) := by decide +kernel
theorem dX8_hurts_74 : decode cX8_hurts 74 = .ok (.iload_n 2, 1) := by decide +kernel
theorem dX8_hurts_75 : decode cX8_hurts 75 = .ok (.iload_n 1, 1) := by decide +kernel
theorem dX8_hurts_76 : decode cX8_hurts 76 = .ok (.ishl, 1) := by decide +kernel
theorem dX8_hurts_77 : decode cX8_hurts 77 = .ok (.ior, 1) := by decide +kernel
theorem dX8_hurts_78 : decode cX8_hurts 78 = .ok (.putfield 120, 3) := by decide +kernel
theorem dX8_hurts_81 : decode cX8_hurts 81 = .ok (.iload_n 3, 1) := by decide +kernel
theorem dX8_hurts_82 : decode cX8_hurts 82 = .ok (.ireturn, 1) := by decide +kernel
theorem dX8_deeds_0 : decode cX8_deeds 0 = .ok (.aload_n 0, 1) := by decide +kernel
theorem dX8_deeds_1 : decode cX8_deeds 1 = .ok (.getfield 26, 3) := by decide +kernel
theorem dX8_deeds_4 : decode cX8_deeds 4 = .ok (.iload_n 1, 1) := by decide +kernel
theorem dX8_deeds_5 : decode cX8_deeds 5 = .ok (.invokevirtual 103, 3) := by decide +kernel
theorem dX8_deeds_8 : decode cX8_deeds 8 = .ok (.ifCond .ne 5, 3) := by decide +kernel
theorem dX8_deeds_11 : decode cX8_deeds 11 = .ok (.iconst (-1), 1) := by decide +kernel
theorem dX8_deeds_12 : decode cX8_deeds 12 = .ok (.ireturn, 1) := by decide +kernel
theorem dX8_deeds_13 : decode cX8_deeds 13 = .ok (.aload_n 0, 1) := by decide +kernel
theorem dX8_deeds_14 : decode cX8_deeds 14 = .ok (.getfield 26, 3) := by decide +kernel
theorem dX8_deeds_17 : decode cX8_deeds 17 = .ok (.getfield 107, 3) := by decide +kernel
theorem dX8_deeds_20 : decode cX8_deeds 20 = .ok (.getfield 131, 3) := by decide +kernel
theorem dX8_deeds_23 : decode cX8_deeds 23 = .ok (.iload_n 1, 1) := by decide +kernel
theorem dX8_deeds_24 : decode cX8_deeds 24 = .ok (.iaload, 1) := by decide +kernel
theorem dX8_deeds_25 : decode cX8_deeds 25 = .ok (.bipush 99, 2) := by decide +kernel
theorem dX8_deeds_27 : decode cX8_deeds 27 = .ok (.if_icmp .lt 6, 3) := by decide +kernel
theorem dX8_deeds_30 : decode cX8_deeds 30 = .ok (.bipush (-2), 2) := by decide +kernel
theorem dX8_deeds_32 : decode cX8_deeds 32 = .ok (.ireturn, 1) := by decide +kernel
theorem dX8_deeds_33 : decode cX8_deeds 33 = .ok (.aload_n 0, 1) := by decide +kernel
theorem dX8_deeds_34 : decode cX8_deeds 34 = .ok (.getfield 33, 3) := by decide +kernel
theorem dX8_deeds_37 : decode cX8_deeds 37 = .ok (.aload_n 0, 1) := by decide +kernel
theorem dX8_deeds_38 : decode cX8_deeds 38 = .ok (.getfield 26, 3) := by decide +kernel
theorem dX8_deeds_41 : decode cX8_deeds 41 = .ok (.getfield 107, 3) := by decide +kernel
theorem dX8_deeds_44 : decode cX8_deeds 44 = .ok (.invokevirtual 197, 3) := by decide +kernel
theorem dX8_deeds_47 : decode cX8_deeds 47 = .ok (.aload_n 0, 1) := by decide +kernel
theorem dX8_deeds_48 : decode cX8_deeds 48 = .ok (.getfield 26, 3) := by decide +kernel
theorem dX8_deeds_51 : decode cX8_deeds 51 = .ok (.getfield 107, 3) := by decide +kernel
theorem dX8_deeds_54 : decode cX8_deeds 54 = .ok (.getfield 131, 3) := by decide +kernel
theorem dX8_deeds_57 : decode cX8_deeds 57 = .ok (.iload_n 1, 1) := by decide +kernel
theorem dX8_deeds_58 : decode cX8_deeds 58 = .ok (.dup2, 1) := by decide +kernel
theorem dX8_deeds_59 : decode cX8_deeds 59 = .ok (.iaload, 1) := by decide +kernel
theorem dX8_deeds_60 : decode cX8_deeds 60 = .ok (.iconst 1, 1) := by decide +kernel
theorem dX8_deeds_61 : decode cX8_deeds 61 = .ok (.iadd, 1) := by decide +kernel
theorem dX8_deeds_62 : decode cX8_deeds 62 = .ok (.iastore, 1) := by decide +kernel
theorem dX8_deeds_63 : decode cX8_deeds 63 = .ok (.aload_n 0, 1) := by decide +kernel
theorem dX8_deeds_64 : decode cX8_deeds 64 = .ok (.getfield 26, 3) := by decide +kernel
theorem dX8_deeds_67 : decode cX8_deeds 67 = .ok (.iload_n 1, 1) := by decide +kernel
theorem dX8_deeds_68 : decode cX8_deeds 68 = .ok (.invokevirtual 134, 3) := by decide +kernel
theorem dX8_deeds_71 : decode cX8_deeds 71 = .ok (.ireturn, 1) := by decide +kernel
theorem dX8_earns_0 : decode cX8_earns 0 = .ok (.aload_n 0, 1) := by decide +kernel
theorem dX8_earns_1 : decode cX8_earns 1 = .ok (.getfield 26, 3) := by decide +kernel
theorem dX8_earns_4 : decode cX8_earns 4 = .ok (.iload_n 1, 1) := by decide +kernel
theorem dX8_earns_5 : decode cX8_earns 5 = .ok (.invokevirtual 103, 3) := by decide +kernel
theorem dX8_earns_8 : decode cX8_earns 8 = .ok (.ifCond .eq 14, 3) := by decide +kernel
theorem dX8_earns_11 : decode cX8_earns 11 = .ok (.iload_n 2, 1) := by decide +kernel
theorem dX8_earns_12 : decode cX8_earns 12 = .ok (.bipush (-99), 2) := by decide +kernel
theorem dX8_earns_14 : decode cX8_earns 14 = .ok (.bipush 99, 2) := by decide +kernel
theorem dX8_earns_16 : decode cX8_earns 16 = .ok (.invokestatic 76, 3) := by decide +kernel
theorem dX8_earns_19 : decode cX8_earns 19 = .ok (.ifCond .ne 5, 3) := by decide +kernel
theorem dX8_earns_22 : decode cX8_earns 22 = .ok (.iconst (-1), 1) := by decide +kernel
theorem dX8_earns_23 : decode cX8_earns 23 = .ok (.ireturn, 1) := by decide +kernel
theorem dX8_earns_24 : decode cX8_earns 24 = .ok (.aload_n 0, 1) := by decide +kernel
theorem dX8_earns_25 : decode cX8_earns 25 = .ok (.getfield 33, 3) := by decide +kernel
theorem dX8_earns_28 : decode cX8_earns 28 = .ok (.aload_n 0, 1) := by decide +kernel
theorem dX8_earns_29 : decode cX8_earns 29 = .ok (.getfield 26, 3) := by decide +kernel
theorem dX8_earns_32 : decode cX8_earns 32 = .ok (.getfield 107, 3) := by decide +kernel
theorem dX8_earns_35 : decode cX8_earns 35 = .ok (.invokevirtual 197, 3) := by decide +kernel
theorem dX8_earns_38 : decode cX8_earns 38 = .ok (.aload_n 0, 1) := by decide +kernel
theorem dX8_earns_39 : decode cX8_earns 39 = .ok (.getfield 26, 3) := by decide +kernel
theorem dX8_earns_42 : decode cX8_earns 42 = .ok (.getfield 107, 3) := by decide +kernel
theorem dX8_earns_45 : decode cX8_earns 45 = .ok (.getfield 114, 3) := by decide +kernel
theorem dX8_earns_48 : decode cX8_earns 48 = .ok (.iload_n 1, 1) := by decide +kernel
theorem dX8_earns_49 : decode cX8_earns 49 = .ok (.iconst 0, 1) := by decide +kernel
theorem dX8_earns_50 : decode cX8_earns 50 = .ok (.sipush 999, 3) := by decide +kernel
theorem dX8_earns_53 : decode cX8_earns 53 = .ok (.aload_n 0, 1) := by decide +kernel
theorem dX8_earns_54 : decode cX8_earns 54 = .ok (.getfield 26, 3) := by decide +kernel
theorem dX8_earns_57 : decode cX8_earns 57 = .ok (.getfield 107, 3) := by decide +kernel
theorem dX8_earns_60 : decode cX8_earns 60 = .ok (.getfield 114, 3) := by decide +kernel
theorem dX8_earns_63 : decode cX8_earns 63 = .ok (.iload_n 1, 1) := by decide +kernel
theorem dX8_earns_64 : decode cX8_earns 64 = .ok (.iaload, 1) := by decide +kernel
theorem dX8_earns_65 : decode cX8_earns 65 = .ok (.iload_n 2, 1) := by decide +kernel
theorem dX8_earns_66 : decode cX8_earns 66 = .ok (.iadd, 1) := by decide +kernel
theorem dX8_earns_67 : decode cX8_earns 67 = .ok (.invokestatic 201, 3) := by decide +kernel
theorem dX8_earns_70 : decode cX8_earns 70 = .ok (.invokestatic 155, 3) := by decide +kernel
theorem dX8_earns_73 : decode cX8_earns 73 = .ok (.iastore, 1) := by decide +kernel
theorem dX8_earns_74 : decode cX8_earns 74 = .ok (.aload_n 0, 1) := by decide +kernel
theorem dX8_earns_75 : decode cX8_earns 75 = .ok (.getfield 26, 3) := by decide +kernel
theorem dX8_earns_78 : decode cX8_earns 78 = .ok (.getfield 107, 3) := by decide +kernel
theorem dX8_earns_81 : decode cX8_earns 81 = .ok (.getfield 114, 3) := by decide +kernel
theorem dX8_earns_84 : decode cX8_earns 84 = .ok (.iload_n 1, 1) := by decide +kernel
theorem dX8_earns_85 : decode cX8_earns 85 = .ok (.iaload, 1) := by decide +kernel
theorem dX8_earns_86 : decode cX8_earns 86 = .ok (.ireturn, 1) := by decide +kernel
theorem dX8_names_0 : decode cX8_names 0 = .ok (.aload_n 0, 1) := by decide +kernel
theorem dX8_names_1 : decode cX8_names 1 = .ok (.getfield 26, 3) := by decide +kernel
theorem dX8_names_4 : decode cX8_names 4 = .ok (.iload_n 1, 1) := by decide +kernel
theorem dX8_names_5 : decode cX8_names 5 = .ok (.invokevirtual 103, 3) := by decide +kernel
theorem dX8_names_8 : decode cX8_names 8 = .ok (.ifCond .eq 14, 3) := by decide +kernel
theorem dX8_names_11 : decode cX8_names 11 = .ok (.aload_n 0, 1) := by decide +kernel
theorem dX8_names_12 : decode cX8_names 12 = .ok (.getfield 26, 3) := by decide +kernel
theorem dX8_names_15 : decode cX8_names 15 = .ok (.iload_n 2, 1) := by decide +kernel
theorem dX8_names_16 : decode cX8_names 16 = .ok (.invokevirtual 144, 3) := by decide +kernel
theorem dX8_names_19 : decode cX8_names 19 = .ok (.ifCond .ne 5, 3) := by decide +kernel
theorem dX8_names_22 : decode cX8_names 22 = .ok (.iconst (-1), 1) := by decide +kernel
theorem dX8_names_23 : decode cX8_names 23 = .ok (.ireturn, 1) := by decide +kernel
theorem dX8_names_24 : decode cX8_names 24 = .ok (.aload_n 0, 1) := by decide +kernel
theorem dX8_names_25 : decode cX8_names 25 = .ok (.getfield 33, 3) := by decide +kernel
theorem dX8_names_28 : decode cX8_names 28 = .ok (.aload_n 0, 1) := by decide +kernel
theorem dX8_names_29 : decode cX8_names 29 = .ok (.getfield 26, 3) := by decide +kernel
theorem dX8_names_32 : decode cX8_names 32 = .ok (.getfield 107, 3) := by decide +kernel
theorem dX8_names_35 : decode cX8_names 35 = .ok (.invokevirtual 197, 3) := by decide +kernel
theorem dX8_names_38 : decode cX8_names 38 = .ok (.aload_n 0, 1) := by decide +kernel
theorem dX8_names_39 : decode cX8_names 39 = .ok (.getfield 26, 3) := by decide +kernel
theorem dX8_names_42 : decode cX8_names 42 = .ok (.getfield 107, 3) := by decide +kernel
theorem dX8_names_45 : decode cX8_names 45 = .ok (.getfield 111, 3) := by decide +kernel
theorem dX8_names_48 : decode cX8_names 48 = .ok (.iload_n 1, 1) := by decide +kernel
theorem dX8_names_49 : decode cX8_names 49 = .ok (.iaload, 1) := by decide +kernel
theorem dX8_names_50 : decode cX8_names 50 = .ok (.istore_n 3, 1) := by decide +kernel
theorem dX8_names_51 : decode cX8_names 51 = .ok (.aload_n 0, 1) := by decide +kernel
theorem dX8_names_52 : decode cX8_names 52 = .ok (.getfield 26, 3) := by decide +kernel
theorem dX8_names_55 : decode cX8_names 55 = .ok (.getfield 107, 3) := by decide +kernel
theorem dX8_names_58 : decode cX8_names 58 = .ok (.getfield 111, 3) := by decide +kernel
theorem dX8_names_61 : decode cX8_names 61 = .ok (.iload_n 1, 1) := by decide +kernel
theorem dX8_names_62 : decode cX8_names 62 = .ok (.iload_n 2, 1) := by decide +kernel
theorem dX8_names_63 : decode cX8_names 63 = .ok (.iastore, 1) := by decide +kernel
theorem dX8_names_64 : decode cX8_names 64 = .ok (.iload_n 3, 1) := by decide +kernel
theorem dX8_names_65 : decode cX8_names 65 = .ok (.ireturn, 1) := by decide +kernel
theorem dX8_laws_0 : decode cX8_laws 0 = .ok (.iload_n 1, 1) := by decide +kernel
theorem dX8_laws_1 : decode cX8_laws 1 = .ok (.iconst 0, 1) := by decide +kernel
theorem dX8_laws_2 : decode cX8_laws 2 = .ok (.bipush 15, 2) := by decide +kernel
theorem dX8_laws_4 : decode cX8_laws 4 = .ok (.invokestatic 76, 3) := by decide +kernel
theorem dX8_laws_7 : decode cX8_laws 7 = .ok (.ifCond .ne 5, 3) := by decide +kernel
theorem dX8_laws_10 : decode cX8_laws 10 = .ok (.iconst (-1), 1) := by decide +kernel
theorem dX8_laws_11 : decode cX8_laws 11 = .ok (.ireturn, 1) := by decide +kernel
theorem dX8_laws_12 : decode cX8_laws 12 = .ok (.aload_n 0, 1) := by decide +kernel
theorem dX8_laws_13 : decode cX8_laws 13 = .ok (.getfield 33, 3) := by decide +kernel
theorem dX8_laws_16 : decode cX8_laws 16 = .ok (.aload_n 0, 1) := by decide +kernel
theorem dX8_laws_17 : decode cX8_laws 17 = .ok (.getfield 26, 3) := by decide +kernel
theorem dX8_laws_20 : decode cX8_laws 20 = .ok (.getfield 107, 3) := by decide +kernel
theorem dX8_laws_23 : decode cX8_laws 23 = .ok (.invokevirtual 197, 3) := by decide +kernel
theorem dX8_laws_26 : decode cX8_laws 26 = .ok (.aload_n 0, 1) := by decide +kernel
theorem dX8_laws_27 : decode cX8_laws 27 = .ok (.getfield 26, 3) := by decide +kernel
theorem dX8_laws_30 : decode cX8_laws 30 = .ok (.getfield 107, 3) := by decide +kernel
theorem dX8_laws_33 : decode cX8_laws 33 = .ok (.getfield 166, 3) := by decide +kernel
theorem dX8_laws_36 : decode cX8_laws 36 = .ok (.istore_n 2, 1) := by decide +kernel
theorem dX8_laws_37 : decode cX8_laws 37 = .ok (.aload_n 0, 1) := by decide +kernel
theorem dX8_laws_38 : decode cX8_laws 38 = .ok (.getfield 26, 3) := by decide +kernel
theorem dX8_laws_41 : decode cX8_laws 41 = .ok (.getfield 107, 3) := by decide +kernel
theorem dX8_laws_44 : decode cX8_laws 44 = .ok (.iload_n 1, 1) := by decide +kernel
theorem dX8_laws_45 : decode cX8_laws 45 = .ok (.putfield 166, 3) := by decide +kernel
theorem dX8_laws_48 : decode cX8_laws 48 = .ok (.iload_n 2, 1) := by decide +kernel
theorem dX8_laws_49 : decode cX8_laws 49 = .ok (.ireturn, 1) := by decide +kernel
theorem dX8_year_0 : decode cX8_year 0 = .ok (.aload_n 0, 1) := by decide +kernel
theorem dX8_year_1 : decode cX8_year 1 = .ok (.getfield 26, 3) := by decide +kernel
theorem dX8_year_4 : decode cX8_year 4 = .ok (.getfield 107, 3) := by decide +kernel
theorem dX8_year_7 : decode cX8_year 7 = .ok (.getfield 182, 3) := by decide +kernel
theorem dX8_year_10 : decode cX8_year 10 = .ok (.sipush 999, 3) := by decide +kernel
theorem dX8_year_13 : decode cX8_year 13 = .ok (.if_icmp .lt 6, 3) := by decide +kernel
theorem dX8_year_16 : decode cX8_year 16 = .ok (.bipush (-2), 2) := by decide +kernel
theorem dX8_year_18 : decode cX8_year 18 = .ok (.ireturn, 1) := by decide +kernel
theorem dX8_year_19 : decode cX8_year 19 = .ok (.aload_n 0, 1) := by decide +kernel
theorem dX8_year_20 : decode cX8_year 20 = .ok (.getfield 33, 3) := by decide +kernel
theorem dX8_year_23 : decode cX8_year 23 = .ok (.aload_n 0, 1) := by decide +kernel
theorem dX8_year_24 : decode cX8_year 24 = .ok (.getfield 26, 3) := by decide +kernel
theorem dX8_year_27 : decode cX8_year 27 = .ok (.getfield 107, 3) := by decide +kernel
theorem dX8_year_30 : decode cX8_year 30 = .ok (.invokevirtual 197, 3) := by decide +kernel
theorem dX8_year_33 : decode cX8_year 33 = .ok (.aload_n 0, 1) := by decide +kernel
theorem dX8_year_34 : decode cX8_year 34 = .ok (.getfield 26, 3) := by decide +kernel
theorem dX8_year_37 : decode cX8_year 37 = .ok (.invokevirtual 204, 3) := by decide +kernel
theorem dX8_year_40 : decode cX8_year 40 = .ok (.ireturn, 1) := by decide +kernel
theorem dX8_undo_0 : decode cX8_undo 0 = .ok (.aload_n 0, 1) := by decide +kernel
theorem dX8_undo_1 : decode cX8_undo 1 = .ok (.getfield 33, 3) := by decide +kernel
theorem dX8_undo_4 : decode cX8_undo 4 = .ok (.getfield 99, 3) := by decide +kernel
theorem dX8_undo_7 : decode cX8_undo 7 = .ok (.ifCond .gt 6, 3) := by decide +kernel
theorem dX8_undo_10 : decode cX8_undo 10 = .ok (.bipush (-2), 2) := by decide +kernel
theorem dX8_undo_12 : decode cX8_undo 12 = .ok (.ireturn, 1) := by decide +kernel
theorem dX8_undo_13 : decode cX8_undo 13 = .ok (.aload_n 0, 1) := by decide +kernel
theorem dX8_undo_14 : decode cX8_undo 14 = .ok (.getfield 33, 3) := by decide +kernel
theorem dX8_undo_17 : decode cX8_undo 17 = .ok (.aload_n 0, 1) := by decide +kernel
theorem dX8_undo_18 : decode cX8_undo 18 = .ok (.getfield 26, 3) := by decide +kernel
theorem dX8_undo_21 : decode cX8_undo 21 = .ok (.getfield 107, 3) := by decide +kernel
theorem dX8_undo_24 : decode cX8_undo 24 = .ok (.invokevirtual 207, 3) := by decide +kernel
theorem dX8_undo_27 : decode cX8_undo 27 = .ok (.aload_n 0, 1) := by decide +kernel
theorem dX8_undo_28 : decode cX8_undo 28 = .ok (.getfield 33, 3) := by decide +kernel
theorem dX8_undo_31 : decode cX8_undo 31 = .ok (.getfield 99, 3) := by decide +kernel
theorem dX8_undo_34 : decode cX8_undo 34 = .ok (.ireturn, 1) := by decide +kernel
theorem dX8_apart_0 : decode cX8_apart 0 = .ok (.iload_n 1, 1) := by decide +kernel
theorem dX8_apart_1 : decode cX8_apart 1 = .ok (.iconst (-1), 1) := by decide +kernel
theorem dX8_apart_2 : decode cX8_apart 2 = .ok (.if_icmp .eq 16, 3) := by decide +kernel
theorem dX8_apart_5 : decode cX8_apart 5 = .ok (.aload_n 0, 1) := by decide +kernel
theorem dX8_apart_6 : decode cX8_apart 6 = .ok (.getfield 26, 3) := by decide +kernel
theorem dX8_apart_9 : decode cX8_apart 9 = .ok (.iload_n 1, 1) := by decide +kernel
theorem dX8_apart_10 : decode cX8_apart 10 = .ok (.invokevirtual 103, 3) := by decide +kernel
theorem dX8_apart_13 : decode cX8_apart 13 = .ok (.ifCond .ne 5, 3) := by decide +kernel
theorem dX8_apart_16 : decode cX8_apart 16 = .ok (.iconst (-1), 1) := by decide +kernel
theorem dX8_apart_17 : decode cX8_apart 17 = .ok (.ireturn, 1) := by decide +kernel
theorem dX8_apart_18 : decode cX8_apart 18 = .ok (.aload_n 0, 1) := by decide +kernel
theorem dX8_apart_19 : decode cX8_apart 19 = .ok (.getfield 50, 3) := by decide +kernel
theorem dX8_apart_22 : decode cX8_apart 22 = .ok (.aload_n 0, 1) := by decide +kernel
theorem dX8_apart_23 : decode cX8_apart 23 = .ok (.getfield 26, 3) := by decide +kernel
theorem dX8_apart_26 : decode cX8_apart 26 = .ok (.invokevirtual 210, 3) := by decide +kernel
theorem dX8_apart_29 : decode cX8_apart 29 = .ok (.aload_n 0, 1) := by decide +kernel
theorem dX8_apart_30 : decode cX8_apart 30 = .ok (.getfield 50, 3) := by decide +kernel
theorem dX8_apart_33 : decode cX8_apart 33 = .ok (.invokevirtual 213, 3) := by decide +kernel
theorem dX8_apart_36 : decode cX8_apart 36 = .ok (.ifCond .ne 6, 3) := by decide +kernel
theorem dX8_apart_39 : decode cX8_apart 39 = .ok (.bipush (-9), 2) := by decide +kernel
theorem dX8_apart_41 : decode cX8_apart 41 = .ok (.ireturn, 1) := by decide +kernel
theorem dX8_apart_42 : decode cX8_apart 42 = .ok (.iload_n 1, 1) := by decide +kernel
theorem dX8_apart_43 : decode cX8_apart 43 = .ok (.iconst (-1), 1) := by decide +kernel
theorem dX8_apart_44 : decode cX8_apart 44 = .ok (.if_icmp .ne 13, 3) := by decide +kernel
theorem dX8_apart_47 : decode cX8_apart 47 = .ok (.aload_n 0, 1) := by decide +kernel
theorem dX8_apart_48 : decode cX8_apart 48 = .ok (.getfield 50, 3) := by decide +kernel
theorem dX8_apart_51 : decode cX8_apart 51 = .ok (.getfield 217, 3) := by decide +kernel
theorem dX8_apart_54 : decode cX8_apart 54 = .ok (.goto 12, 3) := by decide +kernel
theorem dX8_apart_57 : decode cX8_apart 57 = .ok (.aload_n 0, 1) := by decide +kernel
theorem dX8_apart_58 : decode cX8_apart 58 = .ok (.getfield 50, 3) := by decide +kernel
theorem dX8_apart_61 : decode cX8_apart 61 = .ok (.getfield 220, 3) := by decide +kernel
theorem dX8_apart_64 : decode cX8_apart 64 = .ok (.iload_n 1, 1) := by decide +kernel
theorem dX8_apart_65 : decode cX8_apart 65 = .ok (.iaload, 1) := by decide +kernel
theorem dX8_apart_66 : decode cX8_apart 66 = .ok (.ireturn, 1) := by decide +kernel
theorem dX8_cheapest_0 : decode cX8_cheapest 0 = .ok (.aload_n 0, 1) := by decide +kernel
theorem dX8_cheapest_1 : decode cX8_cheapest 1 = .ok (.getfield 26, 3) := by decide +kernel
theorem dX8_cheapest_4 : decode cX8_cheapest 4 = .ok (.iload_n 1, 1) := by decide +kernel
theorem dX8_cheapest_5 : decode cX8_cheapest 5 = .ok (.invokevirtual 103, 3) := by decide +kernel
theorem dX8_cheapest_8 : decode cX8_cheapest 8 = .ok (.ifCond .eq 14, 3) := by decide +kernel
theorem dX8_cheapest_11 : decode cX8_cheapest 11 = .ok (.aload_n 0, 1) := by decide +kernel
theorem dX8_cheapest_12 : decode cX8_cheapest 12 = .ok (.getfield 26, 3) := by decide +kernel
theorem dX8_cheapest_15 : decode cX8_cheapest 15 = .ok (.iload_n 1, 1) := by decide +kernel
theorem dX8_cheapest_16 : decode cX8_cheapest 16 = .ok (.invokevirtual 223, 3) := by decide +kernel
theorem dX8_cheapest_19 : decode cX8_cheapest 19 = .ok (.goto 4, 3) := by decide +kernel
theorem dX8_cheapest_22 : decode cX8_cheapest 22 = .ok (.iconst (-1), 1) := by decide +kernel
theorem dX8_cheapest_23 : decode cX8_cheapest 23 = .ok (.ireturn, 1) := by decide +kernel
theorem dX8_tells_0 : decode cX8_tells 0 = .ok (.aload_n 0, 1) := by decide +kernel
theorem dX8_tells_1 : decode cX8_tells 1 = .ok (.getfield 26, 3) := by decide +kernel
theorem dX8_tells_4 : decode cX8_tells 4 = .ok (.iload_n 1, 1) := by decide +kernel
theorem dX8_tells_5 : decode cX8_tells 5 = .ok (.invokevirtual 103, 3) := by decide +kernel
theorem dX8_tells_8 : decode cX8_tells 8 = .ok (.ifCond .eq 12, 3) := by decide +kernel
theorem dX8_tells_11 : decode cX8_tells 11 = .ok (.iload_n 2, 1) := by decide +kernel
theorem dX8_tells_12 : decode cX8_tells 12 = .ok (.iconst 0, 1) := by decide +kernel
theorem dX8_tells_13 : decode cX8_tells 13 = .ok (.iconst 1, 1) := by decide +kernel
theorem dX8_tells_14 : decode cX8_tells 14 = .ok (.invokestatic 76, 3) := by decide +kernel
theorem dX8_tells_17 : decode cX8_tells 17 = .ok (.ifCond .ne 5, 3) := by decide +kernel
theorem dX8_tells_20 : decode cX8_tells 20 = .ok (.iconst (-1), 1) := by decide +kernel
theorem dX8_tells_21 : decode cX8_tells 21 = .ok (.ireturn, 1) := by decide +kernel
theorem dX8_tells_22 : decode cX8_tells 22 = .ok (.aload_n 0, 1) := by decide +kernel
theorem dX8_tells_23 : decode cX8_tells 23 = .ok (.getfield 40, 3) := by decide +kernel
theorem dX8_tells_26 : decode cX8_tells 26 = .ok (.iload_n 1, 1) := by decide +kernel
theorem dX8_tells_27 : decode cX8_tells 27 = .ok (.iload_n 2, 1) := by decide +kernel
theorem dX8_tells_28 : decode cX8_tells 28 = .ok (.invokevirtual 226, 3) := by decide +kernel
theorem dX8_tells_31 : decode cX8_tells 31 = .ok (.ireturn, 1) := by decide +kernel
theorem dX8_record_0 : decode cX8_record 0 = .ok (.iload_n 1, 1) := by decide +kernel
theorem dX8_record_1 : decode cX8_record 1 = .ok (.iconst 0, 1) := by decide +kernel
theorem dX8_record_2 : decode cX8_record 2 = .ok (.iconst 4, 1) := by decide +kernel
theorem dX8_record_3 : decode cX8_record 3 = .ok (.invokestatic 76, 3) := by decide +kernel
theorem dX8_record_6 : decode cX8_record 6 = .ok (.ifCond .eq 12, 3) := by decide +kernel
theorem dX8_record_9 : decode cX8_record 9 = .ok (.iload_n 2, 1) := by decide +kernel
theorem dX8_record_10 : decode cX8_record 10 = .ok (.iconst 0, 1) := by decide +kernel
theorem dX8_record_11 : decode cX8_record 11 = .ok (.iconst 1, 1) := by decide +kernel
theorem dX8_record_12 : decode cX8_record 12 = .ok (.invokestatic 76, 3) := by decide +kernel
theorem dX8_record_15 : decode cX8_record 15 = .ok (.ifCond .ne 5, 3) := by decide +kernel
theorem dX8_record_18 : decode cX8_record 18 = .ok (.iconst (-1), 1) := by decide +kernel
theorem dX8_record_19 : decode cX8_record 19 = .ok (.ireturn, 1) := by decide +kernel
theorem dX8_record_20 : decode cX8_record 20 = .ok (.aload_n 0, 1) := by decide +kernel
theorem dX8_record_21 : decode cX8_record 21 = .ok (.getfield 44, 3) := by decide +kernel
theorem dX8_record_24 : decode cX8_record 24 = .ok (.iload_n 1, 1) := by decide +kernel
theorem dX8_record_25 : decode cX8_record 25 = .ok (.iload_n 2, 1) := by decide +kernel
theorem dX8_record_26 : decode cX8_record 26 = .ok (.invokevirtual 226, 3) := by decide +kernel
theorem dX8_record_29 : decode cX8_record 29 = .ok (.ireturn, 1) := by decide +kernel
theorem dX8_forget_0 : decode cX8_forget 0 = .ok (.aload_n 0, 1) := by decide +kernel
theorem dX8_forget_1 : decode cX8_forget 1 = .ok (.getfield 40, 3) := by decide +kernel
theorem dX8_forget_4 : decode cX8_forget 4 = .ok (.getfield 102, 3) := by decide +kernel
theorem dX8_forget_7 : decode cX8_forget 7 = .ok (.aload_n 0, 1) := by decide +kernel
theorem dX8_forget_8 : decode cX8_forget 8 = .ok (.getfield 44, 3) := by decide +kernel
theorem dX8_forget_11 : decode cX8_forget 11 = .ok (.getfield 102, 3) := by decide +kernel
theorem dX8_forget_14 : decode cX8_forget 14 = .ok (.iadd, 1) := by decide +kernel
theorem dX8_forget_15 : decode cX8_forget 15 = .ok (.istore_n 1, 1) := by decide +kernel
theorem dX8_forget_16 : decode cX8_forget 16 = .ok (.aload_n 0, 1) := by decide +kernel
theorem dX8_forget_17 : decode cX8_forget 17 = .ok (.getfield 40, 3) := by decide +kernel
theorem dX8_forget_20 : decode cX8_forget 20 = .ok (.iconst 0, 1) := by decide +kernel
theorem dX8_forget_21 : decode cX8_forget 21 = .ok (.putfield 102, 3) := by decide +kernel
theorem dX8_forget_24 : decode cX8_forget 24 = .ok (.aload_n 0, 1) := by decide +kernel
theorem dX8_forget_25 : decode cX8_forget 25 = .ok (.getfield 44, 3) := by decide +kernel
theorem dX8_forget_28 : decode cX8_forget 28 = .ok (.iconst 0, 1) := by decide +kernel
theorem dX8_forget_29 : decode cX8_forget 29 = .ok (.putfield 102, 3) := by decide +kernel
theorem dX8_forget_32 : decode cX8_forget 32 = .ok (.iload_n 1, 1) := by decide +kernel
theorem dX8_forget_33 : decode cX8_forget 33 = .ok (.ireturn, 1) := by decide +kernel
theorem dX8_who_0 : decode cX8_who 0 = .ok (.aload_n 0, 1) := by decide +kernel
theorem dX8_who_1 : decode cX8_who 1 = .ok (.getfield 26, 3) := by decide +kernel
theorem dX8_who_4 : decode cX8_who 4 = .ok (.getfield 107, 3) := by decide +kernel
theorem dX8_who_7 : decode cX8_who 7 = .ok (.getfield 166, 3) := by decide +kernel
theorem dX8_who_10 : decode cX8_who 10 = .ok (.istore_n 1, 1) := by decide +kernel
theorem dX8_who_11 : decode cX8_who 11 = .ok (.aload_n 0, 1) := by decide +kernel
theorem dX8_who_12 : decode cX8_who 12 = .ok (.getfield 40, 3) := by decide +kernel
theorem dX8_who_15 : decode cX8_who 15 = .ok (.aload_n 0, 1) := by decide +kernel
theorem dX8_who_16 : decode cX8_who 16 = .ok (.getfield 26, 3) := by decide +kernel
theorem dX8_who_19 : decode cX8_who 19 = .ok (.iconst 0, 1) := by decide +kernel
theorem dX8_who_20 : decode cX8_who 20 = .ok (.iload_n 1, 1) := by decide +kernel
theorem dX8_who_21 : decode cX8_who 21 = .ok (.invokevirtual 229, 3) := by decide +kernel
theorem dX8_who_24 : decode cX8_who 24 = .ok (.invokevirtual 232, 3) := by decide +kernel
theorem dX8_who_27 : decode cX8_who 27 = .ok (.ifCond .eq 9, 3) := by decide +kernel
theorem dX8_who_30 : decode cX8_who 30 = .ok (.sipush 128, 3) := by decide +kernel
theorem dX8_who_33 : decode cX8_who 33 = .ok (.goto 4, 3) := by decide +kernel
theorem dX8_who_36 : decode cX8_who 36 = .ok (.iconst 0, 1) := by decide +kernel
theorem dX8_who_37 : decode cX8_who 37 = .ok (.istore_n 2, 1) := by decide +kernel
theorem dX8_who_38 : decode cX8_who 38 = .ok (.iconst 0, 1) := by decide +kernel
theorem dX8_who_39 : decode cX8_who 39 = .ok (.istore_n 3, 1) := by decide +kernel
theorem dX8_who_40 : decode cX8_who 40 = .ok (.iload_n 3, 1) := by decide +kernel
theorem dX8_who_41 : decode cX8_who 41 = .ok (.aload_n 0, 1) := by decide +kernel
theorem dX8_who_42 : decode cX8_who 42 = .ok (.getfield 26, 3) := by decide +kernel
theorem dX8_who_45 : decode cX8_who 45 = .ok (.getfield 235, 3) := by decide +kernel
theorem dX8_who_48 : decode cX8_who 48 = .ok (.if_icmp .ge 36, 3) := by decide +kernel
theorem dX8_who_51 : decode cX8_who 51 = .ok (.aload_n 0, 1) := by decide +kernel
theorem dX8_who_52 : decode cX8_who 52 = .ok (.getfield 40, 3) := by decide +kernel
theorem dX8_who_55 : decode cX8_who 55 = .ok (.aload_n 0, 1) := by decide +kernel
theorem dX8_who_56 : decode cX8_who 56 = .ok (.getfield 26, 3) := by decide +kernel
theorem dX8_who_59 : decode cX8_who 59 = .ok (.iconst 1, 1) := by decide +kernel
theorem dX8_who_60 : decode cX8_who 60 = .ok (.iload_n 3, 1) := by decide +kernel
theorem dX8_who_61 : decode cX8_who 61 = .ok (.ishl, 1) := by decide +kernel
theorem dX8_who_62 : decode cX8_who 62 = .ok (.iload_n 1, 1) := by decide +kernel
theorem dX8_who_63 : decode cX8_who 63 = .ok (.invokevirtual 229, 3) := by decide +kernel
theorem dX8_who_66 : decode cX8_who 66 = .ok (.invokevirtual 232, 3) := by decide +kernel
theorem dX8_who_69 : decode cX8_who 69 = .ok (.ifCond .eq 9, 3) := by decide +kernel
theorem dX8_who_72 : decode cX8_who 72 = .ok (.iload_n 2, 1) := by decide +kernel
theorem dX8_who_73 : decode cX8_who 73 = .ok (.iconst 1, 1) := by decide +kernel
theorem dX8_who_74 : decode cX8_who 74 = .ok (.iload_n 3, 1) := by decide +kernel
theorem dX8_who_75 : decode cX8_who 75 = .ok (.ishl, 1) := by decide +kernel
theorem dX8_who_76 : decode cX8_who 76 = .ok (.ior, 1) := by decide +kernel
theorem dX8_who_77 : decode cX8_who 77 = .ok (.istore_n 2, 1) := by decide +kernel
theorem dX8_who_78 : decode cX8_who 78 = .ok (.iinc 3 1, 3) := by decide +kernel
theorem dX8_who_81 : decode cX8_who 81 = .ok (.goto (-41), 3) := by decide +kernel
theorem dX8_who_84 : decode cX8_who 84 = .ok (.iload_n 2, 1) := by decide +kernel
theorem dX8_who_85 : decode cX8_who 85 = .ok (.ireturn, 1) := by decide +kernel
theorem dX8_which_0 : decode cX8_which 0 = .ok (.iload_n 1, 1) := by decide +kernel
theorem dX8_which_1 : decode cX8_which 1 = .ok (.iconst 0, 1) := by decide +kernel
theorem dX8_which_2 : decode cX8_which 2 = .ok (.iconst 2, 1) := by decide +kernel
theorem dX8_which_3 : decode cX8_which 3 = .ok (.invokestatic 76, 3) := by decide +kernel
theorem dX8_which_6 : decode cX8_which 6 = .ok (.ifCond .ne 5, 3) := by decide +kernel
theorem dX8_which_9 : decode cX8_which 9 = .ok (.iconst (-1), 1) := by decide +kernel
theorem dX8_which_10 : decode cX8_which 10 = .ok (.ireturn, 1) := by decide +kernel
theorem dX8_which_11 : decode cX8_which 11 = .ok (.iconst 0, 1) := by decide +kernel
theorem dX8_which_12 : decode cX8_which 12 = .ok (.istore_n 2, 1) := by decide +kernel
theorem dX8_which_13 : decode cX8_which 13 = .ok (.bipush (-9), 2) := by decide +kernel
theorem dX8_which_15 : decode cX8_which 15 = .ok (.istore_n 3, 1) := by decide +kernel
theorem dX8_which_16 : decode cX8_which 16 = .ok (.bipush 15, 2) := by decide +kernel
theorem dX8_which_18 : decode cX8_which 18 = .ok (.istore 4, 2) := by decide +kernel
theorem dX8_which_20 : decode cX8_which 20 = .ok (.bipush 15, 2) := by decide +kernel
theorem dX8_which_22 : decode cX8_which 22 = .ok (.istore 5, 2) := by decide +kernel
theorem dX8_which_24 : decode cX8_which 24 = .ok (.iload 5, 2) := by decide +kernel
theorem dX8_which_26 : decode cX8_which 26 = .ok (.ifCond .lt 31, 3) := by decide +kernel
theorem dX8_which_29 : decode cX8_which 29 = .ok (.aload_n 0, 1) := by decide +kernel
theorem dX8_which_30 : decode cX8_which 30 = .ok (.iload 5, 2) := by decide +kernel
theorem dX8_which_32 : decode cX8_which 32 = .ok (.invokevirtual 238, 3) := by decide +kernel
theorem dX8_which_35 : decode cX8_which 35 = .ok (.ifCond .eq 16, 3) := by decide +kernel
theorem dX8_which_38 : decode cX8_which 38 = .ok (.iinc 2 1, 3) := by decide +kernel
theorem dX8_which_41 : decode cX8_which 41 = .ok (.iload 5, 2) := by decide +kernel
theorem dX8_which_43 : decode cX8_which 43 = .ok (.istore_n 3, 1) := by decide +kernel
theorem dX8_which_44 : decode cX8_which 44 = .ok (.iload 4, 2) := by decide +kernel
theorem dX8_which_46 : decode cX8_which 46 = .ok (.iload 5, 2) := by decide +kernel
theorem dX8_which_48 : decode cX8_which 48 = .ok (.iand, 1) := by decide +kernel
theorem dX8_which_49 : decode cX8_which 49 = .ok (.istore 4, 2) := by decide +kernel
theorem dX8_which_51 : decode cX8_which 51 = .ok (.iinc 5 (-1), 3) := by decide +kernel
theorem dX8_which_54 : decode cX8_which 54 = .ok (.goto (-30), 3) := by decide +kernel
theorem dX8_which_57 : decode cX8_which 57 = .ok (.iload_n 1, 1) := by decide +kernel
theorem dX8_which_58 : decode cX8_which 58 = .ok (.ifCond .ne 5, 3) := by decide +kernel
theorem dX8_which_61 : decode cX8_which 61 = .ok (.iload_n 2, 1) := by decide +kernel
theorem dX8_which_62 : decode cX8_which 62 = .ok (.ireturn, 1) := by decide +kernel
theorem dX8_which_63 : decode cX8_which 63 = .ok (.iload_n 2, 1) := by decide +kernel
theorem dX8_which_64 : decode cX8_which 64 = .ok (.ifCond .ne 6, 3) := by decide +kernel
theorem dX8_which_67 : decode cX8_which 67 = .ok (.bipush (-9), 2) := by decide +kernel
theorem dX8_which_69 : decode cX8_which 69 = .ok (.ireturn, 1) := by decide +kernel
theorem dX8_which_70 : decode cX8_which 70 = .ok (.iload_n 1, 1) := by decide +kernel
theorem dX8_which_71 : decode cX8_which 71 = .ok (.iconst 1, 1) := by decide +kernel
theorem dX8_which_72 : decode cX8_which 72 = .ok (.if_icmp .ne 7, 3) := by decide +kernel
theorem dX8_which_75 : decode cX8_which 75 = .ok (.iload_n 3, 1) := by decide +kernel
theorem dX8_which_76 : decode cX8_which 76 = .ok (.goto 5, 3) := by decide +kernel
theorem dX8_which_79 : decode cX8_which 79 = .ok (.iload 4, 2) := by decide +kernel
theorem dX8_which_81 : decode cX8_which 81 = .ok (.ireturn, 1) := by decide +kernel
theorem dX8_allIsSo_0 : decode cX8_allIsSo 0 = .ok (.aload_n 0, 1) := by decide +kernel
theorem dX8_allIsSo_1 : decode cX8_allIsSo 1 = .ok (.getfield 40, 3) := by decide +kernel
theorem dX8_allIsSo_4 : decode cX8_allIsSo 4 = .ok (.aload_n 0, 1) := by decide +kernel
theorem dX8_allIsSo_5 : decode cX8_allIsSo 5 = .ok (.getfield 26, 3) := by decide +kernel
theorem dX8_allIsSo_8 : decode cX8_allIsSo 8 = .ok (.aload_n 0, 1) := by decide +kernel
theorem dX8_allIsSo_9 : decode cX8_allIsSo 9 = .ok (.getfield 26, 3) := by decide +kernel
theorem dX8_allIsSo_12 : decode cX8_allIsSo 12 = .ok (.getfield 107, 3) := by decide +kernel
theorem dX8_allIsSo_15 : decode cX8_allIsSo 15 = .ok (.getfield 120, 3) := by decide +kernel
theorem dX8_allIsSo_18 : decode cX8_allIsSo 18 = .ok (.iload_n 1, 1) := by decide +kernel
theorem dX8_allIsSo_19 : decode cX8_allIsSo 19 = .ok (.invokevirtual 229, 3) := by decide +kernel
theorem dX8_allIsSo_22 : decode cX8_allIsSo 22 = .ok (.invokevirtual 232, 3) := by decide +kernel
theorem dX8_allIsSo_25 : decode cX8_allIsSo 25 = .ok (.ifCond .eq 25, 3) := by decide +kernel
theorem dX8_allIsSo_28 : decode cX8_allIsSo 28 = .ok (.aload_n 0, 1) := by decide +kernel
theorem dX8_allIsSo_29 : decode cX8_allIsSo 29 = .ok (.getfield 44, 3) := by decide +kernel
theorem dX8_allIsSo_32 : decode cX8_allIsSo 32 = .ok (.aload_n 0, 1) := by decide +kernel
theorem dX8_allIsSo_33 : decode cX8_allIsSo 33 = .ok (.getfield 26, 3) := by decide +kernel
theorem dX8_allIsSo_36 : decode cX8_allIsSo 36 = .ok (.iload_n 1, 1) := by decide +kernel
theorem dX8_allIsSo_37 : decode cX8_allIsSo 37 = .ok (.invokevirtual 241, 3) := by decide +kernel
theorem dX8_allIsSo_40 : decode cX8_allIsSo 40 = .ok (.invokevirtual 232, 3) := by decide +kernel
theorem dX8_allIsSo_43 : decode cX8_allIsSo 43 = .ok (.ifCond .eq 7, 3) := by decide +kernel
theorem dX8_allIsSo_46 : decode cX8_allIsSo 46 = .ok (.iconst 1, 1) := by decide +kernel
theorem dX8_allIsSo_47 : decode cX8_allIsSo 47 = .ok (.goto 4, 3) := by decide +kernel
theorem dX8_allIsSo_50 : decode cX8_allIsSo 50 = .ok (.iconst 0, 1) := by decide +kernel
theorem dX8_allIsSo_51 : decode cX8_allIsSo 51 = .ok (.ireturn, 1) := by decide +kernel
theorem dX8_married_0 : decode cX8_married 0 = .ok (.iload_n 1, 1) := by decide +kernel
theorem dX8_married_1 : decode cX8_married 1 = .ok (.iconst (-1), 1) := by decide +kernel
theorem dX8_married_2 : decode cX8_married 2 = .ok (.if_icmp .eq 16, 3) := by decide +kernel
theorem dX8_married_5 : decode cX8_married 5 = .ok (.aload_n 0, 1) := by decide +kernel
theorem dX8_married_6 : decode cX8_married 6 = .ok (.getfield 26, 3) := by decide +kernel
theorem dX8_married_9 : decode cX8_married 9 = .ok (.iload_n 1, 1) := by decide +kernel
theorem dX8_married_10 : decode cX8_married 10 = .ok (.invokevirtual 103, 3) := by decide +kernel
theorem dX8_married_13 : decode cX8_married 13 = .ok (.ifCond .ne 5, 3) := by decide +kernel
theorem dX8_married_16 : decode cX8_married 16 = .ok (.iconst (-1), 1) := by decide +kernel
theorem dX8_married_17 : decode cX8_married 17 = .ok (.ireturn, 1) := by decide +kernel
theorem dX8_married_18 : decode cX8_married 18 = .ok (.aload_n 0, 1) := by decide +kernel
theorem dX8_married_19 : decode cX8_married 19 = .ok (.getfield 57, 3) := by decide +kernel
theorem dX8_married_22 : decode cX8_married 22 = .ok (.aload_n 0, 1) := by decide +kernel
theorem dX8_married_23 : decode cX8_married 23 = .ok (.getfield 26, 3) := by decide +kernel
theorem dX8_married_26 : decode cX8_married 26 = .ok (.invokevirtual 244, 3) := by decide +kernel
theorem dX8_married_29 : decode cX8_married 29 = .ok (.iload_n 1, 1) := by decide +kernel
theorem dX8_married_30 : decode cX8_married 30 = .ok (.iconst (-1), 1) := by decide +kernel
theorem dX8_married_31 : decode cX8_married 31 = .ok (.if_icmp .ne 13, 3) := by decide +kernel
theorem dX8_married_34 : decode cX8_married 34 = .ok (.aload_n 0, 1) := by decide +kernel
theorem dX8_married_35 : decode cX8_married 35 = .ok (.getfield 57, 3) := by decide +kernel
theorem dX8_married_38 : decode cX8_married 38 = .ok (.getfield 245, 3) := by decide +kernel
theorem dX8_married_41 : decode cX8_married 41 = .ok (.goto 12, 3) := by decide +kernel
theorem dX8_married_44 : decode cX8_married 44 = .ok (.aload_n 0, 1) := by decide +kernel
theorem dX8_married_45 : decode cX8_married 45 = .ok (.getfield 57, 3) := by decide +kernel
theorem dX8_married_48 : decode cX8_married 48 = .ok (.getfield 248, 3) := by decide +kernel
theorem dX8_married_51 : decode cX8_married 51 = .ok (.iload_n 1, 1) := by decide +kernel
theorem dX8_married_52 : decode cX8_married 52 = .ok (.iaload, 1) := by decide +kernel
theorem dX8_married_53 : decode cX8_married 53 = .ok (.ireturn, 1) := by decide +kernel
theorem dX8_odds_0 : decode cX8_odds 0 = .ok (.aload_n 0, 1) := by decide +kernel
theorem dX8_odds_1 : decode cX8_odds 1 = .ok (.getfield 26, 3) := by decide +kernel
theorem dX8_odds_4 : decode cX8_odds 4 = .ok (.iload_n 1, 1) := by decide +kernel
theorem dX8_odds_5 : decode cX8_odds 5 = .ok (.invokevirtual 144, 3) := by decide +kernel
theorem dX8_odds_8 : decode cX8_odds 8 = .ok (.ifCond .eq 13, 3) := by decide +kernel
theorem dX8_odds_11 : decode cX8_odds 11 = .ok (.iload_n 2, 1) := by decide +kernel
theorem dX8_odds_12 : decode cX8_odds 12 = .ok (.iconst 0, 1) := by decide +kernel
theorem dX8_odds_13 : decode cX8_odds 13 = .ok (.bipush 6, 2) := by decide +kernel
theorem dX8_odds_15 : decode cX8_odds 15 = .ok (.invokestatic 76, 3) := by decide +kernel
theorem dX8_odds_18 : decode cX8_odds 18 = .ok (.ifCond .ne 5, 3) := by decide +kernel
theorem dX8_odds_21 : decode cX8_odds 21 = .ok (.iconst (-1), 1) := by decide +kernel
theorem dX8_odds_22 : decode cX8_odds 22 = .ok (.ireturn, 1) := by decide +kernel
theorem dX8_odds_23 : decode cX8_odds 23 = .ok (.iload_n 3, 1) := by decide +kernel
theorem dX8_odds_24 : decode cX8_odds 24 = .ok (.iconst 0, 1) := by decide +kernel
theorem dX8_odds_25 : decode cX8_odds 25 = .ok (.bipush 20, 2) := by decide +kernel
theorem dX8_odds_27 : decode cX8_odds 27 = .ok (.invokestatic 76, 3) := by decide +kernel
theorem dX8_odds_30 : decode cX8_odds 30 = .ok (.ifCond .eq 13, 3) := by decide +kernel
theorem dX8_odds_33 : decode cX8_odds 33 = .ok (.iload 4, 2) := by decide +kernel
theorem dX8_odds_35 : decode cX8_odds 35 = .ok (.iconst 0, 1) := by decide +kernel
theorem dX8_odds_36 : decode cX8_odds 36 = .ok (.iconst 1, 1) := by decide +kernel
theorem dX8_odds_37 : decode cX8_odds 37 = .ok (.invokestatic 76, 3) := by decide +kernel
theorem dX8_odds_40 : decode cX8_odds 40 = .ok (.ifCond .ne 5, 3) := by decide +kernel
theorem dX8_odds_43 : decode cX8_odds 43 = .ok (.iconst (-1), 1) := by decide +kernel
theorem dX8_odds_44 : decode cX8_odds 44 = .ok (.ireturn, 1) := by decide +kernel
theorem dX8_odds_45 : decode cX8_odds 45 = .ok (.iload_n 3, 1) := by decide +kernel
theorem dX8_odds_46 : decode cX8_odds 46 = .ok (.aload_n 0, 1) := by decide +kernel
theorem dX8_odds_47 : decode cX8_odds 47 = .ok (.getfield 26, 3) := by decide +kernel
theorem dX8_odds_50 : decode cX8_odds 50 = .ok (.iload_n 1, 1) := by decide +kernel
theorem dX8_odds_51 : decode cX8_odds 51 = .ok (.invokevirtual 147, 3) := by decide +kernel
theorem dX8_odds_54 : decode cX8_odds 54 = .ok (.invokestatic 150, 3) := by decide +kernel
theorem dX8_odds_57 : decode cX8_odds 57 = .ok (.isub, 1) := by decide +kernel
theorem dX8_odds_58 : decode cX8_odds 58 = .ok (.istore 5, 2) := by decide +kernel
theorem dX8_odds_60 : decode cX8_odds 60 = .ok (.aload_n 0, 1) := by decide +kernel
theorem dX8_odds_61 : decode cX8_odds 61 = .ok (.iload_n 2, 1) := by decide +kernel
theorem dX8_odds_62 : decode cX8_odds 62 = .ok (.iconst 0, 1) := by decide +kernel
theorem dX8_odds_63 : decode cX8_odds 63 = .ok (.iload 5, 2) := by decide +kernel
theorem dX8_odds_65 : decode cX8_odds 65 = .ok (.invokestatic 155, 3) := by decide +kernel
theorem dX8_odds_68 : decode cX8_odds 68 = .ok (.invokevirtual 249, 3) := by decide +kernel
theorem dX8_odds_71 : decode cX8_odds 71 = .ok (.istore 6, 2) := by decide +kernel
theorem dX8_odds_73 : decode cX8_odds 73 = .ok (.aload_n 0, 1) := by decide +kernel
theorem dX8_odds_74 : decode cX8_odds 74 = .ok (.getfield 26, 3) := by decide +kernel
theorem dX8_odds_77 : decode cX8_odds 77 = .ok (.getfield 252, 3) := by decide +kernel
theorem dX8_odds_80 : decode cX8_odds 80 = .ok (.iload_n 2, 1) := by decide +kernel
theorem dX8_odds_81 : decode cX8_odds 81 = .ok (.invokestatic 255, 3) := by decide +kernel
theorem dX8_odds_84 : decode cX8_odds 84 = .ok (.istore 7, 2) := by decide +kernel
theorem dX8_odds_86 : decode cX8_odds 86 = .ok (.iload 4, 2) := by decide +kernel
theorem dX8_odds_88 : decode cX8_odds 88 = .ok (.ifCond .ne 13, 3) := by decide +kernel
theorem dX8_odds_91 : decode cX8_odds 91 = .ok (.iload 6, 2) := by decide +kernel
theorem dX8_odds_93 : decode cX8_odds 93 = .ok (.iload 7, 2) := by decide +kernel
theorem dX8_odds_95 : decode cX8_odds 95 = .ok (.invokestatic 163, 3) := by decide +kernel
theorem dX8_odds_98 : decode cX8_odds 98 = .ok (.goto 10, 3) := by decide +kernel
theorem dX8_odds_101 : decode cX8_odds 101 = .ok (.iload 7, 2) := by decide +kernel
theorem dX8_odds_103 : decode cX8_odds 103 = .ok (.iload 6, 2) := by decide +kernel
theorem dX8_odds_105 : decode cX8_odds 105 = .ok (.invokestatic 163, 3) := by decide +kernel
theorem dX8_odds_108 : decode cX8_odds 108 = .ok (.ireturn, 1) := by decide +kernel
theorem dX8_christenings_0 : decode cX8_christenings 0 = .ok (.iconst 0, 1) := by decide +kernel
theorem dX8_christenings_1 : decode cX8_christenings 1 = .ok (.istore_n 3, 1) := by decide +kernel
theorem dX8_christenings_2 : decode cX8_christenings 2 = .ok (.iload_n 2, 1) := by decide +kernel
theorem dX8_christenings_3 : decode cX8_christenings 3 = .ok (.istore 4, 2) := by decide +kernel
theorem dX8_christenings_5 : decode cX8_christenings 5 = .ok (.iload 4, 2) := by decide +kernel
theorem dX8_christenings_7 : decode cX8_christenings 7 = .ok (.iload_n 1, 1) := by decide +kernel
theorem dX8_christenings_8 : decode cX8_christenings 8 = .ok (.if_icmp .gt 35, 3) := by decide +kernel
theorem dX8_christenings_11 : decode cX8_christenings 11 = .ok (.iload_n 3, 1) := by decide +kernel
theorem dX8_christenings_12 : decode cX8_christenings 12 = .ok (.iload_n 1, 1) := by decide +kernel
theorem dX8_christenings_13 : decode cX8_christenings 13 = .ok (.iload 4, 2) := by decide +kernel
theorem dX8_christenings_15 : decode cX8_christenings 15 = .ok (.invokestatic 258, 3) := by decide +kernel
theorem dX8_christenings_18 : decode cX8_christenings 18 = .ok (.aload_n 0, 1) := by decide +kernel
theorem dX8_christenings_19 : decode cX8_christenings 19 = .ok (.getfield 26, 3) := by decide +kernel
theorem dX8_christenings_22 : decode cX8_christenings 22 = .ok (.getfield 252, 3) := by decide +kernel
theorem dX8_christenings_25 : decode cX8_christenings 25 = .ok (.iconst 1, 1) := by decide +kernel
theorem dX8_christenings_26 : decode cX8_christenings 26 = .ok (.isub, 1) := by decide +kernel
theorem dX8_christenings_27 : decode cX8_christenings 27 = .ok (.iload_n 1, 1) := by decide +kernel
theorem dX8_christenings_28 : decode cX8_christenings 28 = .ok (.iload 4, 2) := by decide +kernel
theorem dX8_christenings_30 : decode cX8_christenings 30 = .ok (.isub, 1) := by decide +kernel
theorem dX8_christenings_31 : decode cX8_christenings 31 = .ok (.invokestatic 255, 3) := by decide +kernel
theorem dX8_christenings_34 : decode cX8_christenings 34 = .ok (.imul, 1) := by decide +kernel
theorem dX8_christenings_35 : decode cX8_christenings 35 = .ok (.iadd, 1) := by decide +kernel
theorem dX8_christenings_36 : decode cX8_christenings 36 = .ok (.istore_n 3, 1) := by decide +kernel
theorem dX8_christenings_37 : decode cX8_christenings 37 = .ok (.iinc 4 1, 3) := by decide +kernel
theorem dX8_christenings_40 : decode cX8_christenings 40 = .ok (.goto (-35), 3) := by decide +kernel
theorem dX8_christenings_43 : decode cX8_christenings 43 = .ok (.iload_n 3, 1) := by decide +kernel
theorem dX8_christenings_44 : decode cX8_christenings 44 = .ok (.ireturn, 1) := by decide +kernel
theorem dX8_rate_0 : decode cX8_rate 0 = .ok (.iload_n 1, 1) := by decide +kernel
theorem dX8_rate_1 : decode cX8_rate 1 = .ok (.iconst 0, 1) := by decide +kernel
theorem dX8_rate_2 : decode cX8_rate 2 = .ok (.iconst 5, 1) := by decide +kernel
theorem dX8_rate_3 : decode cX8_rate 3 = .ok (.invokestatic 76, 3) := by decide +kernel
theorem dX8_rate_6 : decode cX8_rate 6 = .ok (.ifCond .eq 14, 3) := by decide +kernel
theorem dX8_rate_9 : decode cX8_rate 9 = .ok (.aload_n 0, 1) := by decide +kernel
theorem dX8_rate_10 : decode cX8_rate 10 = .ok (.getfield 26, 3) := by decide +kernel
theorem dX8_rate_13 : decode cX8_rate 13 = .ok (.iload_n 2, 1) := by decide +kernel
theorem dX8_rate_14 : decode cX8_rate 14 = .ok (.invokevirtual 103, 3) := by decide +kernel
theorem dX8_rate_17 : decode cX8_rate 17 = .ok (.ifCond .ne 7, 3) := by decide +kernel
theorem dX8_rate_20 : decode cX8_rate 20 = .ok (.ldc_w 261, 3) := by decide +kernel
theorem dX8_rate_23 : decode cX8_rate 23 = .ok (.ireturn, 1) := by decide +kernel
theorem dX8_rate_24 : decode cX8_rate 24 = .ok (.aload_n 0, 1) := by decide +kernel
theorem dX8_rate_25 : decode cX8_rate 25 = .ok (.iload_n 1, 1) := by decide +kernel
theorem dX8_rate_26 : decode cX8_rate 26 = .ok (.iload_n 2, 1) := by decide +kernel
theorem dX8_rate_27 : decode cX8_rate 27 = .ok (.invokevirtual 262, 3) := by decide +kernel
theorem dX8_rate_30 : decode cX8_rate 30 = .ok (.ireturn, 1) := by decide +kernel
theorem dX8_rateAs_0 : decode cX8_rateAs 0 = .ok (.aload_n 0, 1) := by decide +kernel
theorem dX8_rateAs_1 : decode cX8_rateAs 1 = .ok (.dup, 1) := by decide +kernel
theorem dX8_rateAs_2 : decode cX8_rateAs 2 = .ok (.getfield 71, 3) := by decide +kernel
theorem dX8_rateAs_5 : decode cX8_rateAs 5 = .ok (.getstatic 265, 3) := by decide +kernel
theorem dX8_rateAs_8 : decode cX8_rateAs 8 = .ok (.iload_n 1, 1) := by decide +kernel
theorem dX8_rateAs_9 : decode cX8_rateAs 9 = .ok (.iaload, 1) := by decide +kernel
theorem dX8_rateAs_10 : decode cX8_rateAs 10 = .ok (.i2l, 1) := by decide +kernel
theorem dX8_rateAs_11 : decode cX8_rateAs 11 = .ok (.ladd, 1) := by decide +kernel
theorem dX8_rateAs_12 : decode cX8_rateAs 12 = .ok (.putfield 71, 3) := by decide +kernel
theorem dX8_rateAs_15 : decode cX8_rateAs 15 = .ok (.iload_n 1, 1) := by decide +kernel
theorem dX8_rateAs_16 : decode cX8_rateAs 16 = .ok (.tableswitch 104 1 5 #[36, 52, 68, 77, 86], 36) := by decide +kernel
theorem dX8_rateAs_52 : decode cX8_rateAs 52 = .ok (.aload_n 0, 1) := by decide +kernel
theorem dX8_rateAs_53 : decode cX8_rateAs 53 = .ok (.iconst 0, 1) := by decide +kernel
theorem dX8_rateAs_54 : decode cX8_rateAs 54 = .ok (.iload_n 2, 1) := by decide +kernel
theorem dX8_rateAs_55 : decode cX8_rateAs 55 = .ok (.invokevirtual 262, 3) := by decide +kernel
theorem dX8_rateAs_58 : decode cX8_rateAs 58 = .ok (.aload_n 0, 1) := by decide +kernel
theorem dX8_rateAs_59 : decode cX8_rateAs 59 = .ok (.getfield 26, 3) := by decide +kernel
theorem dX8_rateAs_62 : decode cX8_rateAs 62 = .ok (.iload_n 2, 1) := by decide +kernel
theorem dX8_rateAs_63 : decode cX8_rateAs 63 = .ok (.invokevirtual 134, 3) := by decide +kernel
theorem dX8_rateAs_66 : decode cX8_rateAs 66 = .ok (.iadd, 1) := by decide +kernel
theorem dX8_rateAs_67 : decode cX8_rateAs 67 = .ok (.ireturn, 1) := by decide +kernel
theorem dX8_rateAs_68 : decode cX8_rateAs 68 = .ok (.aload_n 0, 1) := by decide +kernel
theorem dX8_rateAs_69 : decode cX8_rateAs 69 = .ok (.iconst 0, 1) := by decide +kernel
theorem dX8_rateAs_70 : decode cX8_rateAs 70 = .ok (.iload_n 2, 1) := by decide +kernel
theorem dX8_rateAs_71 : decode cX8_rateAs 71 = .ok (.invokevirtual 262, 3) := by decide +kernel
theorem dX8_rateAs_74 : decode cX8_rateAs 74 = .ok (.aload_n 0, 1) := by decide +kernel
theorem dX8_rateAs_75 : decode cX8_rateAs 75 = .ok (.getfield 26, 3) := by decide +kernel
theorem dX8_rateAs_78 : decode cX8_rateAs 78 = .ok (.iload_n 2, 1) := by decide +kernel
theorem dX8_rateAs_79 : decode cX8_rateAs 79 = .ok (.invokevirtual 138, 3) := by decide +kernel
theorem dX8_rateAs_82 : decode cX8_rateAs 82 = .ok (.isub, 1) := by decide +kernel
theorem dX8_rateAs_83 : decode cX8_rateAs 83 = .ok (.ireturn, 1) := by decide +kernel
theorem dX8_rateAs_84 : decode cX8_rateAs 84 = .ok (.iconst 2, 1) := by decide +kernel
theorem dX8_rateAs_85 : decode cX8_rateAs 85 = .ok (.aload_n 0, 1) := by decide +kernel
theorem dX8_rateAs_86 : decode cX8_rateAs 86 = .ok (.iconst 1, 1) := by decide +kernel
theorem dX8_rateAs_87 : decode cX8_rateAs 87 = .ok (.iload_n 2, 1) := by decide +kernel
theorem dX8_rateAs_88 : decode cX8_rateAs 88 = .ok (.invokevirtual 262, 3) := by decide +kernel
theorem dX8_rateAs_91 : decode cX8_rateAs 91 = .ok (.imul, 1) := by decide +kernel
theorem dX8_rateAs_92 : decode cX8_rateAs 92 = .ok (.ireturn, 1) := by decide +kernel
theorem dX8_rateAs_93 : decode cX8_rateAs 93 = .ok (.aload_n 0, 1) := by decide +kernel
theorem dX8_rateAs_94 : decode cX8_rateAs 94 = .ok (.iconst 2, 1) := by decide +kernel
theorem dX8_rateAs_95 : decode cX8_rateAs 95 = .ok (.iload_n 2, 1) := by decide +kernel
theorem dX8_rateAs_96 : decode cX8_rateAs 96 = .ok (.invokevirtual 262, 3) := by decide +kernel
theorem dX8_rateAs_99 : decode cX8_rateAs 99 = .ok (.iload_n 2, 1) := by decide +kernel
theorem dX8_rateAs_100 : decode cX8_rateAs 100 = .ok (.iadd, 1) := by decide +kernel
theorem dX8_rateAs_101 : decode cX8_rateAs 101 = .ok (.ireturn, 1) := by decide +kernel
theorem dX8_rateAs_102 : decode cX8_rateAs 102 = .ok (.aload_n 0, 1) := by decide +kernel
theorem dX8_rateAs_103 : decode cX8_rateAs 103 = .ok (.iconst 0, 1) := by decide +kernel
theorem dX8_rateAs_104 : decode cX8_rateAs 104 = .ok (.iload_n 2, 1) := by decide +kernel
theorem dX8_rateAs_105 : decode cX8_rateAs 105 = .ok (.invokevirtual 262, 3) := by decide +kernel
theorem dX8_rateAs_108 : decode cX8_rateAs 108 = .ok (.aload_n 0, 1) := by decide +kernel
theorem dX8_rateAs_109 : decode cX8_rateAs 109 = .ok (.getfield 26, 3) := by decide +kernel
theorem dX8_rateAs_112 : decode cX8_rateAs 112 = .ok (.getfield 107, 3) := by decide +kernel
theorem dX8_rateAs_115 : decode cX8_rateAs 115 = .ok (.getfield 182, 3) := by decide +kernel
theorem dX8_rateAs_118 : decode cX8_rateAs 118 = .ok (.iadd, 1) := by decide +kernel
theorem dX8_rateAs_119 : decode cX8_rateAs 119 = .ok (.ireturn, 1) := by decide +kernel
theorem dX8_rateAs_120 : decode cX8_rateAs 120 = .ok (.aload_n 0, 1) := by decide +kernel
theorem dX8_rateAs_121 : decode cX8_rateAs 121 = .ok (.getfield 26, 3) := by decide +kernel
theorem dX8_rateAs_124 : decode cX8_rateAs 124 = .ok (.getfield 107, 3) := by decide +kernel
theorem dX8_rateAs_127 : decode cX8_rateAs 127 = .ok (.getfield 114, 3) := by decide +kernel
theorem dX8_rateAs_130 : decode cX8_rateAs 130 = .ok (.iload_n 2, 1) := by decide +kernel
theorem dX8_rateAs_131 : decode cX8_rateAs 131 = .ok (.iaload, 1) := by decide +kernel
theorem dX8_rateAs_132 : decode cX8_rateAs 132 = .ok (.ireturn, 1) := by decide +kernel
theorem dX8_keep_0 : decode cX8_keep 0 = .ok (.iload_n 1, 1) := by decide +kernel
theorem dX8_keep_1 : decode cX8_keep 1 = .ok (.iconst 0, 1) := by decide +kernel
theorem dX8_keep_2 : decode cX8_keep 2 = .ok (.iconst 1, 1) := by decide +kernel
theorem dX8_keep_3 : decode cX8_keep 3 = .ok (.invokestatic 76, 3) := by decide +kernel
theorem dX8_keep_6 : decode cX8_keep 6 = .ok (.ifCond .ne 5, 3) := by decide +kernel
theorem dX8_keep_9 : decode cX8_keep 9 = .ok (.iconst (-1), 1) := by decide +kernel
theorem dX8_keep_10 : decode cX8_keep 10 = .ok (.ireturn, 1) := by decide +kernel
theorem dX8_keep_11 : decode cX8_keep 11 = .ok (.aload_n 0, 1) := by decide +kernel
theorem dX8_keep_12 : decode cX8_keep 12 = .ok (.getfield 63, 3) := by decide +kernel
theorem dX8_keep_15 : decode cX8_keep 15 = .ok (.iload_n 1, 1) := by decide +kernel
theorem dX8_keep_16 : decode cX8_keep 16 = .ok (.aaload, 1) := by decide +kernel
theorem dX8_keep_17 : decode cX8_keep 17 = .ok (.aload_n 0, 1) := by decide +kernel
theorem dX8_keep_18 : decode cX8_keep 18 = .ok (.getfield 26, 3) := by decide +kernel
theorem dX8_keep_21 : decode cX8_keep 21 = .ok (.getfield 107, 3) := by decide +kernel
theorem dX8_keep_24 : decode cX8_keep 24 = .ok (.invokevirtual 268, 3) := by decide +kernel
theorem dX8_keep_27 : decode cX8_keep 27 = .ok (.aload_n 0, 1) := by decide +kernel
theorem dX8_keep_28 : decode cX8_keep 28 = .ok (.getfield 67, 3) := by decide +kernel
theorem dX8_keep_31 : decode cX8_keep 31 = .ok (.iload_n 1, 1) := by decide +kernel
theorem dX8_keep_32 : decode cX8_keep 32 = .ok (.iconst 1, 1) := by decide +kernel
theorem dX8_keep_33 : decode cX8_keep 33 = .ok (.bastore, 1) := by decide +kernel
theorem dX8_keep_34 : decode cX8_keep 34 = .ok (.aload_n 0, 1) := by decide +kernel
theorem dX8_keep_35 : decode cX8_keep 35 = .ok (.getfield 26, 3) := by decide +kernel
theorem dX8_keep_38 : decode cX8_keep 38 = .ok (.getfield 107, 3) := by decide +kernel
theorem dX8_keep_41 : decode cX8_keep 41 = .ok (.getfield 182, 3) := by decide +kernel
theorem dX8_keep_44 : decode cX8_keep 44 = .ok (.ireturn, 1) := by decide +kernel
theorem dX8_back_0 : decode cX8_back 0 = .ok (.iload_n 1, 1) := by decide +kernel
theorem dX8_back_1 : decode cX8_back 1 = .ok (.iconst 0, 1) := by decide +kernel
theorem dX8_back_2 : decode cX8_back 2 = .ok (.iconst 1, 1) := by decide +kernel
theorem dX8_back_3 : decode cX8_back 3 = .ok (.invokestatic 76, 3) := by decide +kernel
theorem dX8_back_6 : decode cX8_back 6 = .ok (.ifCond .ne 5, 3) := by decide +kernel
theorem dX8_back_9 : decode cX8_back 9 = .ok (.iconst (-1), 1) := by decide +kernel
theorem dX8_back_10 : decode cX8_back 10 = .ok (.ireturn, 1) := by decide +kernel
theorem dX8_back_11 : decode cX8_back 11 = .ok (.aload_n 0, 1) := by decide +kernel
theorem dX8_back_12 : decode cX8_back 12 = .ok (.getfield 67, 3) := by decide +kernel
theorem dX8_back_15 : decode cX8_back 15 = .ok (.iload_n 1, 1) := by decide +kernel
theorem dX8_back_16 : decode cX8_back 16 = .ok (.baload, 1) := by decide +kernel
theorem dX8_back_17 : decode cX8_back 17 = .ok (.ifCond .ne 6, 3) := by decide +kernel
theorem dX8_back_20 : decode cX8_back 20 = .ok (.bipush (-2), 2) := by decide +kernel
theorem dX8_back_22 : decode cX8_back 22 = .ok (.ireturn, 1) := by decide +kernel
theorem dX8_back_23 : decode cX8_back 23 = .ok (.aload_n 0, 1) := by decide +kernel
theorem dX8_back_24 : decode cX8_back 24 = .ok (.getfield 26, 3) := by decide +kernel
theorem dX8_back_27 : decode cX8_back 27 = .ok (.getfield 107, 3) := by decide +kernel
theorem dX8_back_30 : decode cX8_back 30 = .ok (.aload_n 0, 1) := by decide +kernel
theorem dX8_back_31 : decode cX8_back 31 = .ok (.getfield 63, 3) := by decide +kernel
theorem dX8_back_34 : decode cX8_back 34 = .ok (.iload_n 1, 1) := by decide +kernel
theorem dX8_back_35 : decode cX8_back 35 = .ok (.aaload, 1) := by decide +kernel
theorem dX8_back_36 : decode cX8_back 36 = .ok (.invokevirtual 268, 3) := by decide +kernel
theorem dX8_back_39 : decode cX8_back 39 = .ok (.aload_n 0, 1) := by decide +kernel
theorem dX8_back_40 : decode cX8_back 40 = .ok (.getfield 33, 3) := by decide +kernel
theorem dX8_back_43 : decode cX8_back 43 = .ok (.iconst 0, 1) := by decide +kernel
theorem dX8_back_44 : decode cX8_back 44 = .ok (.putfield 99, 3) := by decide +kernel
theorem dX8_back_47 : decode cX8_back 47 = .ok (.aload_n 0, 1) := by decide +kernel
theorem dX8_back_48 : decode cX8_back 48 = .ok (.getfield 26, 3) := by decide +kernel
theorem dX8_back_51 : decode cX8_back 51 = .ok (.getfield 107, 3) := by decide +kernel
theorem dX8_back_54 : decode cX8_back 54 = .ok (.getfield 182, 3) := by decide +kernel
theorem dX8_back_57 : decode cX8_back 57 = .ok (.ireturn, 1) := by decide +kernel
theorem dX8_count_0 : decode cX8_count 0 = .ok (.iload_n 1, 1) := by decide +kernel
theorem dX8_count_1 : decode cX8_count 1 = .ok (.tableswitch 75 0 4 #[35, 43, 51, 59, 67], 35) := by decide +kernel
theorem dX8_count_36 : decode cX8_count 36 = .ok (.aload_n 0, 1) := by decide +kernel
theorem dX8_count_37 : decode cX8_count 37 = .ok (.getfield 26, 3) := by decide +kernel
theorem dX8_count_40 : decode cX8_count 40 = .ok (.getfield 252, 3) := by decide +kernel
theorem dX8_count_43 : decode cX8_count 43 = .ok (.ireturn, 1) := by decide +kernel
theorem dX8_count_44 : decode cX8_count 44 = .ok (.aload_n 0, 1) := by decide +kernel
theorem dX8_count_45 : decode cX8_count 45 = .ok (.getfield 26, 3) := by decide +kernel
theorem dX8_count_48 : decode cX8_count 48 = .ok (.getfield 235, 3) := by decide +kernel
theorem dX8_count_51 : decode cX8_count 51 = .ok (.ireturn, 1) := by decide +kernel
theorem dX8_count_52 : decode cX8_count 52 = .ok (.aload_n 0, 1) := by decide +kernel
theorem dX8_count_53 : decode cX8_count 53 = .ok (.getfield 40, 3) := by decide +kernel
theorem dX8_count_56 : decode cX8_count 56 = .ok (.getfield 102, 3) := by decide +kernel
theorem dX8_count_59 : decode cX8_count 59 = .ok (.ireturn, 1) := by decide +kernel
theorem dX8_count_60 : decode cX8_count 60 = .ok (.aload_n 0, 1) := by decide +kernel
theorem dX8_count_61 : decode cX8_count 61 = .ok (.getfield 44, 3) := by decide +kernel
theorem dX8_count_64 : decode cX8_count 64 = .ok (.getfield 102, 3) := by decide +kernel
theorem dX8_count_67 : decode cX8_count 67 = .ok (.ireturn, 1) := by decide +kernel
theorem dX8_count_68 : decode cX8_count 68 = .ok (.aload_n 0, 1) := by decide +kernel
theorem dX8_count_69 : decode cX8_count 69 = .ok (.getfield 10, 3) := by decide +kernel
theorem dX8_count_72 : decode cX8_count 72 = .ok (.getfield 80, 3) := by decide +kernel
theorem dX8_count_75 : decode cX8_count 75 = .ok (.ireturn, 1) := by decide +kernel
theorem dX8_count_76 : decode cX8_count 76 = .ok (.iconst (-1), 1) := by decide +kernel
theorem dX8_count_77 : decode cX8_count 77 = .ok (.ireturn, 1) := by decide +kernel
theorem dX8_trace_0 : decode cX8_trace 0 = .ok (.aload_n 0, 1) := by decide +kernel
theorem dX8_trace_1 : decode cX8_trace 1 = .ok (.getfield 71, 3) := by decide +kernel
theorem dX8_trace_4 : decode cX8_trace 4 = .ok (.lreturn, 1) := by decide +kernel
theorem dX8_within_0 : decode cX8_within 0 = .ok (.iload_n 0, 1) := by decide +kernel
theorem dX8_within_1 : decode cX8_within 1 = .ok (.iload_n 1, 1) := by decide +kernel
theorem dX8_within_2 : decode cX8_within 2 = .ok (.if_icmp .lt 12, 3) := by decide +kernel
theorem dX8_within_5 : decode cX8_within 5 = .ok (.iload_n 0, 1) := by decide +kernel
theorem dX8_within_6 : decode cX8_within 6 = .ok (.iload_n 2, 1) := by decide +kernel
theorem dX8_within_7 : decode cX8_within 7 = .ok (.if_icmp .gt 7, 3) := by decide +kernel
theorem dX8_within_10 : decode cX8_within 10 = .ok (.iconst 1, 1) := by decide +kernel
theorem dX8_within_11 : decode cX8_within 11 = .ok (.goto 4, 3) := by decide +kernel
theorem dX8_within_14 : decode cX8_within 14 = .ok (.iconst 0, 1) := by decide +kernel
theorem dX8_within_15 : decode cX8_within 15 = .ok (.ireturn, 1) := by decide +kernel
theorem dX8_bit_0 : decode cX8_bit 0 = .ok (.iload_n 0, 1) := by decide +kernel
theorem dX8_bit_1 : decode cX8_bit 1 = .ok (.iload_n 1, 1) := by decide +kernel
theorem dX8_bit_2 : decode cX8_bit 2 = .ok (.ishr, 1) := by decide +kernel
theorem dX8_bit_3 : decode cX8_bit 3 = .ok (.iconst 1, 1) := by decide +kernel
theorem dX8_bit_4 : decode cX8_bit 4 = .ok (.iand, 1) := by decide +kernel
theorem dX8_bit_5 : decode cX8_bit 5 = .ok (.ireturn, 1) := by decide +kernel
theorem dX8_inLeastTerms_0 : decode cX8_inLeastTerms 0 = .ok (.iload_n 0, 1) := by decide +kernel
theorem dX8_inLeastTerms_1 : decode cX8_inLeastTerms 1 = .ok (.iload_n 1, 1) := by decide +kernel
theorem dX8_inLeastTerms_2 : decode cX8_inLeastTerms 2 = .ok (.invokestatic 270, 3) := by decide +kernel
theorem dX8_inLeastTerms_5 : decode cX8_inLeastTerms 5 = .ok (.istore_n 2, 1) := by decide +kernel
theorem dX8_inLeastTerms_6 : decode cX8_inLeastTerms 6 = .ok (.iload_n 2, 1) := by decide +kernel
theorem dX8_inLeastTerms_7 : decode cX8_inLeastTerms 7 = .ok (.iconst 1, 1) := by decide +kernel
theorem dX8_inLeastTerms_8 : decode cX8_inLeastTerms 8 = .ok (.if_icmp .ge 7, 3) := by decide +kernel
theorem dX8_inLeastTerms_11 : decode cX8_inLeastTerms 11 = .ok (.iload_n 0, 1) := by decide +kernel
theorem dX8_inLeastTerms_12 : decode cX8_inLeastTerms 12 = .ok (.goto 6, 3) := by decide +kernel
theorem dX8_inLeastTerms_15 : decode cX8_inLeastTerms 15 = .ok (.iload_n 0, 1) := by decide +kernel
theorem dX8_inLeastTerms_16 : decode cX8_inLeastTerms 16 = .ok (.iload_n 2, 1) := by decide +kernel
theorem dX8_inLeastTerms_17 : decode cX8_inLeastTerms 17 = .ok (.idiv, 1) := by decide +kernel
theorem dX8_inLeastTerms_18 : decode cX8_inLeastTerms 18 = .ok (.ireturn, 1) := by decide +kernel
theorem dX8_commonDivisor_0 : decode cX8_commonDivisor 0 = .ok (.iload_n 0, 1) := by decide +kernel
theorem dX8_commonDivisor_1 : decode cX8_commonDivisor 1 = .ok (.istore_n 2, 1) := by decide +kernel
theorem dX8_commonDivisor_2 : decode cX8_commonDivisor 2 = .ok (.iload_n 1, 1) := by decide +kernel
theorem dX8_commonDivisor_3 : decode cX8_commonDivisor 3 = .ok (.istore_n 3, 1) := by decide +kernel
theorem dX8_commonDivisor_4 : decode cX8_commonDivisor 4 = .ok (.iconst 0, 1) := by decide +kernel
theorem dX8_commonDivisor_5 : decode cX8_commonDivisor 5 = .ok (.istore 4, 2) := by decide +kernel
theorem dX8_commonDivisor_7 : decode cX8_commonDivisor 7 = .ok (.iload 4, 2) := by decide +kernel
theorem dX8_commonDivisor_9 : decode cX8_commonDivisor 9 = .ok (.bipush 64, 2) := by decide +kernel
theorem dX8_commonDivisor_11 : decode cX8_commonDivisor 11 = .ok (.if_icmp .ge 23, 3) := by decide +kernel
theorem dX8_commonDivisor_14 : decode cX8_commonDivisor 14 = .ok (.iload_n 3, 1) := by decide +kernel
theorem dX8_commonDivisor_15 : decode cX8_commonDivisor 15 = .ok (.ifCond .eq 19, 3) := by decide +kernel
theorem dX8_commonDivisor_18 : decode cX8_commonDivisor 18 = .ok (.iload_n 2, 1) := by decide +kernel
theorem dX8_commonDivisor_19 : decode cX8_commonDivisor 19 = .ok (.iload_n 3, 1) := by decide +kernel
theorem dX8_commonDivisor_20 : decode cX8_commonDivisor 20 = .ok (.irem, 1) := by decide +kernel
theorem dX8_commonDivisor_21 : decode cX8_commonDivisor 21 = .ok (.istore 5, 2) := by decide +kernel
theorem dX8_commonDivisor_23 : decode cX8_commonDivisor 23 = .ok (.iload_n 3, 1) := by decide +kernel
theorem dX8_commonDivisor_24 : decode cX8_commonDivisor 24 = .ok (.istore_n 2, 1) := by decide +kernel
theorem dX8_commonDivisor_25 : decode cX8_commonDivisor 25 = .ok (.iload 5, 2) := by decide +kernel
theorem dX8_commonDivisor_27 : decode cX8_commonDivisor 27 = .ok (.istore_n 3, 1) := by decide +kernel
theorem dX8_commonDivisor_28 : decode cX8_commonDivisor 28 = .ok (.iinc 4 1, 3) := by decide +kernel
theorem dX8_commonDivisor_31 : decode cX8_commonDivisor 31 = .ok (.goto (-24), 3) := by decide +kernel
theorem dX8_commonDivisor_34 : decode cX8_commonDivisor 34 = .ok (.iload_n 2, 1) := by decide +kernel
theorem dX8_commonDivisor_35 : decode cX8_commonDivisor 35 = .ok (.ireturn, 1) := by decide +kernel
theorem dX8_power_0 : decode cX8_power 0 = .ok (.iconst 1, 1) := by decide +kernel
theorem dX8_power_1 : decode cX8_power 1 = .ok (.istore_n 2, 1) := by decide +kernel
theorem dX8_power_2 : decode cX8_power 2 = .ok (.iconst 0, 1) := by decide +kernel
theorem dX8_power_3 : decode cX8_power 3 = .ok (.istore_n 3, 1) := by decide +kernel
theorem dX8_power_4 : decode cX8_power 4 = .ok (.iload_n 3, 1) := by decide +kernel
theorem dX8_power_5 : decode cX8_power 5 = .ok (.iload_n 1, 1) := by decide +kernel
theorem dX8_power_6 : decode cX8_power 6 = .ok (.if_icmp .ge 13, 3) := by decide +kernel
theorem dX8_power_9 : decode cX8_power 9 = .ok (.iload_n 2, 1) := by decide +kernel
theorem dX8_power_10 : decode cX8_power 10 = .ok (.iload_n 0, 1) := by decide +kernel
theorem dX8_power_11 : decode cX8_power 11 = .ok (.imul, 1) := by decide +kernel
theorem dX8_power_12 : decode cX8_power 12 = .ok (.istore_n 2, 1) := by decide +kernel
theorem dX8_power_13 : decode cX8_power 13 = .ok (.iinc 3 1, 3) := by decide +kernel
theorem dX8_power_16 : decode cX8_power 16 = .ok (.goto (-12), 3) := by decide +kernel
theorem dX8_power_19 : decode cX8_power 19 = .ok (.iload_n 2, 1) := by decide +kernel
theorem dX8_power_20 : decode cX8_power 20 = .ok (.ireturn, 1) := by decide +kernel
theorem dX8_choices_0 : decode cX8_choices 0 = .ok (.iconst 1, 1) := by decide +kernel
theorem dX8_choices_1 : decode cX8_choices 1 = .ok (.istore_n 2, 1) := by decide +kernel
theorem dX8_choices_2 : decode cX8_choices 2 = .ok (.iconst 1, 1) := by decide +kernel
theorem dX8_choices_3 : decode cX8_choices 3 = .ok (.istore_n 3, 1) := by decide +kernel
theorem dX8_choices_4 : decode cX8_choices 4 = .ok (.iload_n 3, 1) := by decide +kernel
theorem dX8_choices_5 : decode cX8_choices 5 = .ok (.iload_n 1, 1) := by decide +kernel
theorem dX8_choices_6 : decode cX8_choices 6 = .ok (.if_icmp .gt 19, 3) := by decide +kernel
theorem dX8_choices_9 : decode cX8_choices 9 = .ok (.iload_n 2, 1) := by decide +kernel
theorem dX8_choices_10 : decode cX8_choices 10 = .ok (.iload_n 0, 1) := by decide +kernel
theorem dX8_choices_11 : decode cX8_choices 11 = .ok (.iload_n 1, 1) := by decide +kernel
theorem dX8_choices_12 : decode cX8_choices 12 = .ok (.isub, 1) := by decide +kernel
theorem dX8_choices_13 : decode cX8_choices 13 = .ok (.iload_n 3, 1) := by decide +kernel
theorem dX8_choices_14 : decode cX8_choices 14 = .ok (.iadd, 1) := by decide +kernel
theorem dX8_choices_15 : decode cX8_choices 15 = .ok (.imul, 1) := by decide +kernel
theorem dX8_choices_16 : decode cX8_choices 16 = .ok (.iload_n 3, 1) := by decide +kernel
theorem dX8_choices_17 : decode cX8_choices 17 = .ok (.idiv, 1) := by decide +kernel
theorem dX8_choices_18 : decode cX8_choices 18 = .ok (.istore_n 2, 1) := by decide +kernel
theorem dX8_choices_19 : decode cX8_choices 19 = .ok (.iinc 3 1, 3) := by decide +kernel
theorem dX8_choices_22 : decode cX8_choices 22 = .ok (.goto (-18), 3) := by decide +kernel
theorem dX8_choices_25 : decode cX8_choices 25 = .ok (.iload_n 2, 1) := by decide +kernel
theorem dX8_choices_26 : decode cX8_choices 26 = .ok (.ireturn, 1) := by decide +kernel
end
section
theorem dX9_init_0 : decode cX9_init 0 = .ok (.aload_n 0, 1) := by decide +kernel
theorem dX9_init_1 : decode cX9_init 1 = .ok (.invokespecial 1, 3) := by decide +kernel
theorem dX9_init_4 : decode cX9_init 4 = .ok (.aload_n 0, 1) := by decide +kernel
theorem dX9_init_5 : decode cX9_init 5 = .ok (.sipush 200, 3) := by decide +kernel
theorem dX9_init_8 : decode cX9_init 8 = .ok (.newarray .int, 2) := by decide +kernel
theorem dX9_init_10 : decode cX9_init 10 = .ok (.putfield 7, 3) := by decide +kernel
theorem dX9_init_13 : decode cX9_init 13 = .ok (.aload_n 0, 1) := by decide +kernel
theorem dX9_init_14 : decode cX9_init 14 = .ok (.bipush 6, 2) := by decide +kernel
theorem dX9_init_16 : decode cX9_init 16 = .ok (.newarray .int, 2) := by decide +kernel
theorem dX9_init_18 : decode cX9_init 18 = .ok (.putfield 13, 3) := by decide +kernel
theorem dX9_init_21 : decode cX9_init 21 = .ok (.aload_n 0, 1) := by decide +kernel
theorem dX9_init_22 : decode cX9_init 22 = .ok (.bipush 7, 2) := by decide +kernel
theorem dX9_init_24 : decode cX9_init 24 = .ok (.newarray .int, 2) := by decide +kernel
theorem dX9_init_26 : decode cX9_init 26 = .ok (.putfield 16, 3) := by decide +kernel
theorem dX9_init_29 : decode cX9_init 29 = .ok (.aload_n 0, 1) := by decide +kernel
theorem dX9_init_30 : decode cX9_init 30 = .ok (.bipush 7, 2) := by decide +kernel
theorem dX9_init_32 : decode cX9_init 32 = .ok (.newarray .int, 2) := by decide +kernel
theorem dX9_init_34 : decode cX9_init 34 = .ok (.putfield 19, 3) := by decide +kernel
theorem dX9_init_37 : decode cX9_init 37 = .ok (.aload_n 0, 1) := by decide +kernel
theorem dX9_init_38 : decode cX9_init 38 = .ok (.bipush 14, 2) := by decide +kernel
theorem dX9_init_40 : decode cX9_init 40 = .ok (.newarray .int, 2) := by decide +kernel
theorem dX9_init_42 : decode cX9_init 42 = .ok (.putfield 22, 3) := by decide +kernel
theorem dX9_init_45 : decode cX9_init 45 = .ok (.aload_n 0, 1) := by decide +kernel
theorem dX9_init_46 : decode cX9_init 46 = .ok (.bipush 14, 2) := by decide +kernel
theorem dX9_init_48 : decode cX9_init 48 = .ok (.newarray .int, 2) := by decide +kernel
theorem dX9_init_50 : decode cX9_init 50 = .ok (.putfield 25, 3) := by decide +kernel
theorem dX9_init_53 : decode cX9_init 53 = .ok (.aload_n 0, 1) := by decide +kernel
theorem dX9_init_54 : decode cX9_init 54 = .ok (.bipush 25, 2) := by decide +kernel
theorem dX9_init_56 : decode cX9_init 56 = .ok (.newarray .int, 2) := by decide +kernel
theorem dX9_init_58 : decode cX9_init 58 = .ok (.putfield 28, 3) := by decide +kernel
theorem dX9_init_61 : decode cX9_init 61 = .ok (.aload_n 0, 1) := by decide +kernel
theorem dX9_init_62 : decode cX9_init 62 = .ok (.bipush 25, 2) := by decide +kernel
theorem dX9_init_64 : decode cX9_init 64 = .ok (.newarray .int, 2) := by decide +kernel
theorem dX9_init_66 : decode cX9_init 66 = .ok (.putfield 31, 3) := by decide +kernel
theorem dX9_init_69 : decode cX9_init 69 = .ok (.aload_n 0, 1) := by decide +kernel
theorem dX9_init_70 : decode cX9_init 70 = .ok (.bipush 50, 2) := by decide +kernel
theorem dX9_init_72 : decode cX9_init 72 = .ok (.newarray .int, 2) := by decide +kernel
theorem dX9_init_74 : decode cX9_init 74 = .ok (.putfield 34, 3) := by decide +kernel
theorem dX9_init_77 : decode cX9_init 77 = .ok (.aload_n 0, 1) := by decide +kernel
theorem dX9_init_78 : decode cX9_init 78 = .ok (.iconst 2, 1) := by decide +kernel
theorem dX9_init_79 : decode cX9_init 79 = .ok (.newarray .boolean, 2) := by decide +kernel
theorem dX9_init_81 : decode cX9_init 81 = .ok (.putfield 37, 3) := by decide +kernel
theorem dX9_init_84 : decode cX9_init 84 = .ok (.aload_n 0, 1) := by decide +kernel
theorem dX9_init_85 : decode cX9_init 85 = .ok (.sipush 250, 3) := by decide +kernel
theorem dX9_init_88 : decode cX9_init 88 = .ok (.newarray .int, 2) := by decide +kernel
theorem dX9_init_90 : decode cX9_init 90 = .ok (.putfield 41, 3) := by decide +kernel
theorem dX9_init_93 : decode cX9_init 93 = .ok (.aload_n 0, 1) := by decide +kernel
theorem dX9_init_94 : decode cX9_init 94 = .ok (.bipush 6, 2) := by decide +kernel
theorem dX9_init_96 : decode cX9_init 96 = .ok (.newarray .int, 2) := by decide +kernel
theorem dX9_init_98 : decode cX9_init 98 = .ok (.putfield 44, 3) := by decide +kernel
theorem dX9_init_101 : decode cX9_init 101 = .ok (.aload_n 0, 1) := by decide +kernel
theorem dX9_init_102 : decode cX9_init 102 = .ok (.bipush 6, 2) := by decide +kernel
theorem dX9_init_104 : decode cX9_init 104 = .ok (.newarray .int, 2) := by decide +kernel
theorem dX9_init_106 : decode cX9_init 106 = .ok (.putfield 47, 3) := by decide +kernel
theorem dX9_init_109 : decode cX9_init 109 = .ok (.aload_n 0, 1) := by decide +kernel
theorem dX9_init_110 : decode cX9_init 110 = .ok (.bipush 6, 2) := by decide +kernel
theorem dX9_init_112 : decode cX9_init 112 = .ok (.newarray .int, 2) := by decide +kernel
theorem dX9_init_114 : decode cX9_init 114 = .ok (.putfield 50, 3) := by decide +kernel
theorem dX9_init_117 : decode cX9_init 117 = .ok (.aload_n 0, 1) := by decide +kernel
theorem dX9_init_118 : decode cX9_init 118 = .ok (.bipush 6, 2) := by decide +kernel
theorem dX9_init_120 : decode cX9_init 120 = .ok (.newarray .int, 2) := by decide +kernel
theorem dX9_init_122 : decode cX9_init 122 = .ok (.putfield 53, 3) := by decide +kernel
theorem dX9_init_125 : decode cX9_init 125 = .ok (.aload_n 0, 1) := by decide +kernel
theorem dX9_init_126 : decode cX9_init 126 = .ok (.bipush 7, 2) := by decide +kernel
theorem dX9_init_128 : decode cX9_init 128 = .ok (.newarray .int, 2) := by decide +kernel
theorem dX9_init_130 : decode cX9_init 130 = .ok (.putfield 56, 3) := by decide +kernel
theorem dX9_init_133 : decode cX9_init 133 = .ok (.aload_n 0, 1) := by decide +kernel
theorem dX9_init_134 : decode cX9_init 134 = .ok (.sipush 128, 3) := by decide +kernel
theorem dX9_init_137 : decode cX9_init 137 = .ok (.newarray .int, 2) := by decide +kernel
theorem dX9_init_139 : decode cX9_init 139 = .ok (.putfield 59, 3) := by decide +kernel
theorem dX9_init_142 : decode cX9_init 142 = .ok (.aload_n 0, 1) := by decide +kernel
theorem dX9_init_143 : decode cX9_init 143 = .ok (.getfield 13, 3) := by decide +kernel
theorem dX9_init_146 : decode cX9_init 146 = .ok (.iconst 0, 1) := by decide +kernel
theorem dX9_init_147 : decode cX9_init 147 = .ok (.iconst 4, 1) := by decide +kernel
theorem dX9_init_148 : decode cX9_init 148 = .ok (.iastore, 1) := by decide +kernel
theorem dX9_init_149 : decode cX9_init 149 = .ok (.aload_n 0, 1) := by decide +kernel
theorem dX9_init_150 : decode cX9_init 150 = .ok (.getfield 28, 3) := by decide +kernel
theorem dX9_init_153 : decode cX9_init 153 = .ok (.bipush 22, 2) := by decide +kernel
theorem dX9_init_155 : decode cX9_init 155 = .ok (.bipush 15, 2) := by decide +kernel
theorem dX9_init_157 : decode cX9_init 157 = .ok (.iastore, 1) := by decide +kernel
theorem dX9_init_158 : decode cX9_init 158 = .ok (.return_, 1) := by decide +kernel
theorem dX9_in_0 : decode cX9_in 0 = .ok (.iload_n 0, 1) := by decide +kernel
theorem dX9_in_1 : decode cX9_in 1 = .ok (.iload_n 1, 1) := by decide +kernel
theorem dX9_in_2 : decode cX9_in 2 = .ok (.if_icmp .lt 12, 3) := by decide +kernel
theorem dX9_in_5 : decode cX9_in 5 = .ok (.iload_n 0, 1) := by decide +kernel
theorem dX9_in_6 : decode cX9_in 6 = .ok (.iload_n 2, 1) := by decide +kernel
theorem dX9_in_7 : decode cX9_in 7 = .ok (.if_icmp .gt 7, 3) := by decide +kernel
theorem dX9_in_10 : decode cX9_in 10 = .ok (.iconst 1, 1) := by decide +kernel
theorem dX9_in_11 : decode cX9_in 11 = .ok (.goto 4, 3) := by decide +kernel
theorem dX9_in_14 : decode cX9_in 14 = .ok (.iconst 0, 1) := by decide +kernel
theorem dX9_in_15 : decode cX9_in 15 = .ok (.ireturn, 1) := by decide +kernel
theorem dX9_ones_0 : decode cX9_ones 0 = .ok (.iconst 0, 1) := by decide +kernel
theorem dX9_ones_1 : decode cX9_ones 1 = .ok (.istore_n 1, 1) := by decide +kernel
theorem dX9_ones_2 : decode cX9_ones 2 = .ok (.iconst 0, 1) := by decide +kernel
theorem dX9_ones_3 : decode cX9_ones 3 = .ok (.istore_n 2, 1) := by decide +kernel
theorem dX9_ones_4 : decode cX9_ones 4 = .ok (.iload_n 2, 1) := by decide +kernel
theorem dX9_ones_5 : decode cX9_ones 5 = .ok (.bipush 7, 2) := by decide +kernel
theorem dX9_ones_7 : decode cX9_ones 7 = .ok (.if_icmp .ge 17, 3) := by decide +kernel
theorem dX9_ones_10 : decode cX9_ones 10 = .ok (.iload_n 1, 1) := by decide +kernel
theorem dX9_ones_11 : decode cX9_ones 11 = .ok (.iload_n 0, 1) := by decide +kernel
theorem dX9_ones_12 : decode cX9_ones 12 = .ok (.iload_n 2, 1) := by decide +kernel
theorem dX9_ones_13 : decode cX9_ones 13 = .ok (.ishr, 1) := by decide +kernel
theorem dX9_ones_14 : decode cX9_ones 14 = .ok (.iconst 1, 1) := by decide +kernel
theorem dX9_ones_15 : decode cX9_ones 15 = .ok (.iand, 1) := by decide +kernel
theorem dX9_ones_16 : decode cX9_ones 16 = .ok (.iadd, 1) := by decide +kernel
theorem dX9_ones_17 : decode cX9_ones 17 = .ok (.istore_n 1, 1) := by decide +kernel
theorem dX9_ones_18 : decode cX9_ones 18 = .ok (.iinc 2 1, 3) := by decide +kernel
theorem dX9_ones_21 : decode cX9_ones 21 = .ok (.goto (-17), 3) := by decide +kernel
theorem dX9_ones_24 : decode cX9_ones 24 = .ok (.iload_n 1, 1) := by decide +kernel
theorem dX9_ones_25 : decode cX9_ones 25 = .ok (.ireturn, 1) := by decide +kernel
theorem dX9_type_0 : decode cX9_type 0 = .ok (.aload_n 0, 1) := by decide +kernel
theorem dX9_type_1 : decode cX9_type 1 = .ok (.iconst 0, 1) := by decide +kernel
theorem dX9_type_2 : decode cX9_type 2 = .ok (.putfield 62, 3) := by decide +kernel
theorem dX9_type_5 : decode cX9_type 5 = .ok (.iload_n 1, 1) := by decide +kernel
theorem dX9_type_6 : decode cX9_type 6 = .ok (.iconst 0, 1) := by decide +kernel
theorem dX9_type_7 : decode cX9_type 7 = .ok (.sipush 255, 3) := by decide +kernel
theorem dX9_type_10 : decode cX9_type 10 = .ok (.invokestatic 66, 3) := by decide +kernel
theorem dX9_type_13 : decode cX9_type 13 = .ok (.ifCond .ne 5, 3) := by decide +kernel
theorem dX9_type_16 : decode cX9_type 16 = .ok (.iconst (-1), 1) := by decide +kernel
theorem dX9_type_17 : decode cX9_type 17 = .ok (.ireturn, 1) := by decide +kernel
theorem dX9_type_18 : decode cX9_type 18 = .ok (.aload_n 0, 1) := by decide +kernel
theorem dX9_type_19 : decode cX9_type 19 = .ok (.getfield 70, 3) := by decide +kernel
theorem dX9_type_22 : decode cX9_type 22 = .ok (.sipush 200, 3) := by decide +kernel
theorem dX9_type_25 : decode cX9_type 25 = .ok (.if_icmp .ne 6, 3) := by decide +kernel
theorem dX9_type_28 : decode cX9_type 28 = .ok (.bipush (-3), 2) := by decide +kernel
theorem dX9_type_30 : decode cX9_type 30 = .ok (.ireturn, 1) := by decide +kernel
theorem dX9_type_31 : decode cX9_type 31 = .ok (.aload_n 0, 1) := by decide +kernel
theorem dX9_type_32 : decode cX9_type 32 = .ok (.getfield 7, 3) := by decide +kernel
theorem dX9_type_35 : decode cX9_type 35 = .ok (.aload_n 0, 1) := by decide +kernel
theorem dX9_type_36 : decode cX9_type 36 = .ok (.getfield 70, 3) := by decide +kernel
theorem dX9_type_39 : decode cX9_type 39 = .ok (.iload_n 1, 1) := by decide +kernel
theorem dX9_type_40 : decode cX9_type 40 = .ok (.iastore, 1) := by decide +kernel
theorem dX9_type_41 : decode cX9_type 41 = .ok (.aload_n 0, 1) := by decide +kernel
theorem dX9_type_42 : decode cX9_type 42 = .ok (.dup, 1) := by decide +kernel
theorem dX9_type_43 : decode cX9_type 43 = .ok (.getfield 70, 3) := by decide +kernel
theorem dX9_type_46 : decode cX9_type 46 = .ok (.iconst 1, 1) := by decide +kernel
theorem dX9_type_47 : decode cX9_type 47 = .ok (.iadd, 1) := by decide +kernel
theorem dX9_type_48 : decode cX9_type 48 = .ok (.putfield 70, 3) := by decide +kernel
theorem dX9_type_51 : decode cX9_type 51 = .ok (.aload_n 0, 1) := by decide +kernel
theorem dX9_type_52 : decode cX9_type 52 = .ok (.getfield 70, 3) := by decide +kernel
theorem dX9_type_55 : decode cX9_type 55 = .ok (.ireturn, 1) := by decide +kernel
theorem dX9_clear_0 : decode cX9_clear 0 = .ok (.aload_n 0, 1) := by decide +kernel
theorem dX9_clear_1 : decode cX9_clear 1 = .ok (.iconst 0, 1) := by decide +kernel
theorem dX9_clear_2 : decode cX9_clear 2 = .ok (.putfield 62, 3) := by decide +kernel
theorem dX9_clear_5 : decode cX9_clear 5 = .ok (.aload_n 0, 1) := by decide +kernel
theorem dX9_clear_6 : decode cX9_clear 6 = .ok (.getfield 70, 3) := by decide +kernel
theorem dX9_clear_9 : decode cX9_clear 9 = .ok (.istore_n 1, 1) := by decide +kernel
theorem dX9_clear_10 : decode cX9_clear 10 = .ok (.aload_n 0, 1) := by decide +kernel
theorem dX9_clear_11 : decode cX9_clear 11 = .ok (.iconst 0, 1) := by decide +kernel
theorem dX9_clear_12 : decode cX9_clear 12 = .ok (.putfield 70, 3) := by decide +kernel
theorem dX9_clear_15 : decode cX9_clear 15 = .ok (.iload_n 1, 1) := by decide +kernel
theorem dX9_clear_16 : decode cX9_clear 16 = .ok (.ireturn, 1) := by decide +kernel
theorem dX9_letterAt_0 : decode cX9_letterAt 0 = .ok (.iload_n 1, 1) := by decide +kernel
theorem dX9_letterAt_1 : decode cX9_letterAt 1 = .ok (.aload_n 0, 1) := by decide +kernel
theorem dX9_letterAt_2 : decode cX9_letterAt 2 = .ok (.getfield 70, 3) := by decide +kernel
theorem dX9_letterAt_5 : decode cX9_letterAt 5 = .ok (.if_icmp .ge 12, 3) := by decide +kernel
theorem dX9_letterAt_8 : decode cX9_letterAt 8 = .ok (.aload_n 0, 1) := by decide +kernel
theorem dX9_letterAt_9 : decode cX9_letterAt 9 = .ok (.getfield 7, 3) := by decide +kernel
theorem dX9_letterAt_12 : decode cX9_letterAt 12 = .ok (.iload_n 1, 1) := by decide +kernel
theorem dX9_letterAt_13 : decode cX9_letterAt 13 = .ok (.iaload, 1) := by decide +kernel
theorem dX9_letterAt_14 : decode cX9_letterAt 14 = .ok (.goto 4, 3) := by decide +kernel
theorem dX9_letterAt_17 : decode cX9_letterAt 17 = .ok (.iconst (-1), 1) := by decide +kernel
theorem dX9_letterAt_18 : decode cX9_letterAt 18 = .ok (.ireturn, 1) := by decide +kernel
theorem dX9_advances_0 : decode cX9_advances 0 = .ok (.aload_n 0, 1) := by decide +kernel
theorem dX9_advances_1 : decode cX9_advances 1 = .ok (.aload_n 0, 1) := by decide +kernel
theorem dX9_advances_2 : decode cX9_advances 2 = .ok (.getfield 73, 3) := by decide +kernel
theorem dX9_advances_5 : decode cX9_advances 5 = .ok (.invokevirtual 76, 3) := by decide +kernel
theorem dX9_advances_8 : decode cX9_advances 8 = .ok (.bipush 32, 2) := by decide +kernel
theorem dX9_advances_10 : decode cX9_advances 10 = .ok (.if_icmp .ne 16, 3) := by decide +kernel
theorem dX9_advances_13 : decode cX9_advances 13 = .ok (.aload_n 0, 1) := by decide +kernel
theorem dX9_advances_14 : decode cX9_advances 14 = .ok (.dup, 1) := by decide +kernel
theorem dX9_advances_15 : decode cX9_advances 15 = .ok (.getfield 73, 3) := by decide +kernel
theorem dX9_advances_18 : decode cX9_advances 18 = .ok (.iconst 1, 1) := by decide +kernel
theorem dX9_advances_19 : decode cX9_advances 19 = .ok (.iadd, 1) := by decide +kernel
theorem dX9_advances_20 : decode cX9_advances 20 = .ok (.putfield 73, 3) := by decide +kernel
theorem dX9_advances_23 : decode cX9_advances 23 = .ok (.goto (-23), 3) := by decide +kernel
theorem dX9_advances_26 : decode cX9_advances 26 = .ok (.aload_n 0, 1) := by decide +kernel
theorem dX9_advances_27 : decode cX9_advances 27 = .ok (.aload_n 0, 1) := by decide +kernel
theorem dX9_advances_28 : decode cX9_advances 28 = .ok (.getfield 73, 3) := by decide +kernel
theorem dX9_advances_31 : decode cX9_advances 31 = .ok (.putfield 80, 3) := by decide +kernel
theorem dX9_advances_34 : decode cX9_advances 34 = .ok (.aload_n 0, 1) := by decide +kernel
theorem dX9_advances_35 : decode cX9_advances 35 = .ok (.aload_n 0, 1) := by decide +kernel
theorem dX9_advances_36 : decode cX9_advances 36 = .ok (.getfield 73, 3) := by decide +kernel
theorem dX9_advances_39 : decode cX9_advances 39 = .ok (.invokevirtual 76, 3) := by decide +kernel
theorem dX9_advances_42 : decode cX9_advances 42 = .ok (.istore_n 1, 1) := by decide +kernel
theorem dX9_advances_43 : decode cX9_advances 43 = .ok (.iload_n 1, 1) := by decide +kernel
theorem dX9_advances_44 : decode cX9_advances 44 = .ok (.ifCond .ge 11, 3) := by decide +kernel
theorem dX9_advances_47 : decode cX9_advances 47 = .ok (.aload_n 0, 1) := by decide +kernel
theorem dX9_advances_48 : decode cX9_advances 48 = .ok (.iconst 0, 1) := by decide +kernel
theorem dX9_advances_49 : decode cX9_advances 49 = .ok (.putfield 83, 3) := by decide +kernel
theorem dX9_advances_52 : decode cX9_advances 52 = .ok (.goto 187, 3) := by decide +kernel
theorem dX9_advances_55 : decode cX9_advances 55 = .ok (.iload_n 1, 1) := by decide +kernel
theorem dX9_advances_56 : decode cX9_advances 56 = .ok (.bipush 48, 2) := by decide +kernel
theorem dX9_advances_58 : decode cX9_advances 58 = .ok (.bipush 57, 2) := by decide +kernel
theorem dX9_advances_60 : decode cX9_advances 60 = .ok (.invokestatic 66, 3) := by decide +kernel
theorem dX9_advances_63 : decode cX9_advances 63 = .ok (.ifCond .eq 118, 3) := by decide +kernel
theorem dX9_advances_66 : decode cX9_advances 66 = .ok (.aload_n 0, 1) := by decide +kernel
theorem dX9_advances_67 : decode cX9_advances 67 = .ok (.iconst 0, 1) := by decide +kernel
theorem dX9_advances_68 : decode cX9_advances 68 = .ok (.putfield 86, 3) := by decide +kernel
theorem dX9_advances_71 : decode cX9_advances 71 = .ok (.aload_n 0, 1) := by decide +kernel
theorem dX9_advances_72 : decode cX9_advances 72 = .ok (.aload_n 0, 1) := by decide +kernel
theorem dX9_advances_73 : decode cX9_advances 73 = .ok (.getfield 73, 3) := by decide +kernel
theorem dX9_advances_76 : decode cX9_advances 76 = .ok (.invokevirtual 76, 3) := by decide +kernel
theorem dX9_advances_79 : decode cX9_advances 79 = .ok (.bipush 48, 2) := by decide +kernel
theorem dX9_advances_81 : decode cX9_advances 81 = .ok (.bipush 57, 2) := by decide +kernel
theorem dX9_advances_83 : decode cX9_advances 83 = .ok (.invokestatic 66, 3) := by decide +kernel
theorem dX9_advances_86 : decode cX9_advances 86 = .ok (.ifCond .eq 55, 3) := by decide +kernel
theorem dX9_advances_89 : decode cX9_advances 89 = .ok (.aload_n 0, 1) := by decide +kernel
theorem dX9_advances_90 : decode cX9_advances 90 = .ok (.aload_n 0, 1) := by decide +kernel
theorem dX9_advances_91 : decode cX9_advances 91 = .ok (.getfield 86, 3) := by decide +kernel
theorem dX9_advances_94 : decode cX9_advances 94 = .ok (.bipush 99, 2) := by decide +kernel
theorem dX9_advances_96 : decode cX9_advances 96 = .ok (.if_icmp .le 10, 3) := by decide +kernel
theorem dX9_advances_99 : decode cX9_advances 99 = .ok (.aload_n 0, 1) := by decide +kernel
theorem dX9_advances_100 : decode cX9_advances 100 = .ok (.getfield 86, 3) := by decide +kernel
theorem dX9_advances_103 : decode cX9_advances 103 = .ok (.goto 22, 3) := by decide +kernel
theorem dX9_advances_106 : decode cX9_advances 106 = .ok (.bipush 10, 2) := by decide +kernel
theorem dX9_advances_108 : decode cX9_advances 108 = .ok (.aload_n 0, 1) := by decide +kernel
theorem dX9_advances_109 : decode cX9_advances 109 = .ok (.getfield 86, 3) := by decide +kernel
theorem dX9_advances_112 : decode cX9_advances 112 = .ok (.imul, 1) := by decide +kernel
theorem dX9_advances_113 : decode cX9_advances 113 = .ok (.aload_n 0, 1) := by decide +kernel
theorem dX9_advances_114 : decode cX9_advances 114 = .ok (.aload_n 0, 1) := by decide +kernel
theorem dX9_advances_115 : decode cX9_advances 115 = .ok (.getfield 73, 3) := by decide +kernel
theorem dX9_advances_118 : decode cX9_advances 118 = .ok (.invokevirtual 76, 3) := by decide +kernel
theorem dX9_advances_121 : decode cX9_advances 121 = .ok (.iadd, 1) := by decide +kernel
theorem dX9_advances_122 : decode cX9_advances 122 = .ok (.bipush 48, 2) := by decide +kernel
theorem dX9_advances_124 : decode cX9_advances 124 = .ok (.isub, 1) := by decide +kernel
theorem dX9_advances_125 : decode cX9_advances 125 = .ok (.putfield 86, 3) := by decide +kernel
theorem dX9_advances_128 : decode cX9_advances 128 = .ok (.aload_n 0, 1) := by decide +kernel
theorem dX9_advances_129 : decode cX9_advances 129 = .ok (.dup, 1) := by decide +kernel
theorem dX9_advances_130 : decode cX9_advances 130 = .ok (.getfield 73, 3) := by decide +kernel
theorem dX9_advances_133 : decode cX9_advances 133 = .ok (.iconst 1, 1) := by decide +kernel
theorem dX9_advances_134 : decode cX9_advances 134 = .ok (.iadd, 1) := by decide +kernel
theorem dX9_advances_135 : decode cX9_advances 135 = .ok (.putfield 73, 3) := by decide +kernel
theorem dX9_advances_138 : decode cX9_advances 138 = .ok (.goto (-67), 3) := by decide +kernel
theorem dX9_advances_141 : decode cX9_advances 141 = .ok (.aload_n 0, 1) := by decide +kernel
theorem dX9_advances_142 : decode cX9_advances 142 = .ok (.aload_n 0, 1) := by decide +kernel
theorem dX9_advances_143 : decode cX9_advances 143 = .ok (.getfield 86, 3) := by decide +kernel
theorem dX9_advances_146 : decode cX9_advances 146 = .ok (.bipush 99, 2) := by decide +kernel
theorem dX9_advances_148 : decode cX9_advances 148 = .ok (.if_icmp .gt 22, 3) := by decide +kernel
theorem dX9_advances_151 : decode cX9_advances 151 = .ok (.iload_n 1, 1) := by decide +kernel
theorem dX9_advances_152 : decode cX9_advances 152 = .ok (.bipush 48, 2) := by decide +kernel
theorem dX9_advances_154 : decode cX9_advances 154 = .ok (.if_icmp .ne 20, 3) := by decide +kernel
theorem dX9_advances_157 : decode cX9_advances 157 = .ok (.aload_n 0, 1) := by decide +kernel
theorem dX9_advances_158 : decode cX9_advances 158 = .ok (.getfield 73, 3) := by decide +kernel
theorem dX9_advances_161 : decode cX9_advances 161 = .ok (.aload_n 0, 1) := by decide +kernel
theorem dX9_advances_162 : decode cX9_advances 162 = .ok (.getfield 80, 3) := by decide +kernel
theorem dX9_advances_165 : decode cX9_advances 165 = .ok (.isub, 1) := by decide +kernel
theorem dX9_advances_166 : decode cX9_advances 166 = .ok (.iconst 1, 1) := by decide +kernel
theorem dX9_advances_167 : decode cX9_advances 167 = .ok (.if_icmp .le 7, 3) := by decide +kernel
theorem dX9_advances_170 : decode cX9_advances 170 = .ok (.iconst 4, 1) := by decide +kernel
theorem dX9_advances_171 : decode cX9_advances 171 = .ok (.goto 4, 3) := by decide +kernel
theorem dX9_advances_174 : decode cX9_advances 174 = .ok (.iconst 2, 1) := by decide +kernel
theorem dX9_advances_175 : decode cX9_advances 175 = .ok (.putfield 83, 3) := by decide +kernel
theorem dX9_advances_178 : decode cX9_advances 178 = .ok (.goto 61, 3) := by decide +kernel
theorem dX9_advances_181 : decode cX9_advances 181 = .ok (.aload_n 0, 1) := by decide +kernel
theorem dX9_advances_182 : decode cX9_advances 182 = .ok (.dup, 1) := by decide +kernel
theorem dX9_advances_183 : decode cX9_advances 183 = .ok (.getfield 73, 3) := by decide +kernel
theorem dX9_advances_186 : decode cX9_advances 186 = .ok (.iconst 1, 1) := by decide +kernel
theorem dX9_advances_187 : decode cX9_advances 187 = .ok (.iadd, 1) := by decide +kernel
theorem dX9_advances_188 : decode cX9_advances 188 = .ok (.putfield 73, 3) := by decide +kernel
theorem dX9_advances_191 : decode cX9_advances 191 = .ok (.aload_n 0, 1) := by decide +kernel
theorem dX9_advances_192 : decode cX9_advances 192 = .ok (.iload_n 1, 1) := by decide +kernel
theorem dX9_advances_193 : decode cX9_advances 193 = .ok (.putfield 86, 3) := by decide +kernel
theorem dX9_advances_196 : decode cX9_advances 196 = .ok (.aload_n 0, 1) := by decide +kernel
theorem dX9_advances_197 : decode cX9_advances 197 = .ok (.iload_n 1, 1) := by decide +kernel
theorem dX9_advances_198 : decode cX9_advances 198 = .ok (.bipush 59, 2) := by decide +kernel
theorem dX9_advances_200 : decode cX9_advances 200 = .ok (.if_icmp .ne 7, 3) := by decide +kernel
theorem dX9_advances_203 : decode cX9_advances 203 = .ok (.iconst 3, 1) := by decide +kernel
theorem dX9_advances_204 : decode cX9_advances 204 = .ok (.goto 32, 3) := by decide +kernel
theorem dX9_advances_207 : decode cX9_advances 207 = .ok (.iload_n 1, 1) := by decide +kernel
theorem dX9_advances_208 : decode cX9_advances 208 = .ok (.bipush 110, 2) := by decide +kernel
theorem dX9_advances_210 : decode cX9_advances 210 = .ok (.if_icmp .eq 21, 3) := by decide +kernel
theorem dX9_advances_213 : decode cX9_advances 213 = .ok (.iload_n 1, 1) := by decide +kernel
theorem dX9_advances_214 : decode cX9_advances 214 = .ok (.bipush 112, 2) := by decide +kernel
theorem dX9_advances_216 : decode cX9_advances 216 = .ok (.if_icmp .eq 15, 3) := by decide +kernel
theorem dX9_advances_219 : decode cX9_advances 219 = .ok (.iload_n 1, 1) := by decide +kernel
theorem dX9_advances_220 : decode cX9_advances 220 = .ok (.bipush 113, 2) := by decide +kernel
theorem dX9_advances_222 : decode cX9_advances 222 = .ok (.if_icmp .eq 9, 3) := by decide +kernel
theorem dX9_advances_225 : decode cX9_advances 225 = .ok (.iload_n 1, 1) := by decide +kernel
theorem dX9_advances_226 : decode cX9_advances 226 = .ok (.bipush 108, 2) := by decide +kernel
theorem dX9_advances_228 : decode cX9_advances 228 = .ok (.if_icmp .ne 7, 3) := by decide +kernel
theorem dX9_advances_231 : decode cX9_advances 231 = .ok (.iconst 1, 1) := by decide +kernel
theorem dX9_advances_232 : decode cX9_advances 232 = .ok (.goto 4, 3) := by decide +kernel
theorem dX9_advances_235 : decode cX9_advances 235 = .ok (.iconst 4, 1) := by decide +kernel
theorem dX9_advances_236 : decode cX9_advances 236 = .ok (.putfield 83, 3) := by decide +kernel
theorem dX9_advances_239 : decode cX9_advances 239 = .ok (.return_, 1) := by decide +kernel
theorem dX9_isWell_0 : decode cX9_isWell 0 = .ok (.aload_n 0, 1) := by decide +kernel
theorem dX9_isWell_1 : decode cX9_isWell 1 = .ok (.getfield 89, 3) := by decide +kernel
theorem dX9_isWell_4 : decode cX9_isWell 4 = .ok (.ifCond .ge 7, 3) := by decide +kernel
theorem dX9_isWell_7 : decode cX9_isWell 7 = .ok (.iconst 1, 1) := by decide +kernel
theorem dX9_isWell_8 : decode cX9_isWell 8 = .ok (.goto 4, 3) := by decide +kernel
theorem dX9_isWell_11 : decode cX9_isWell 11 = .ok (.iconst 0, 1) := by decide +kernel
theorem dX9_isWell_12 : decode cX9_isWell 12 = .ok (.ireturn, 1) := by decide +kernel
theorem dX9_takes_0 : decode cX9_takes 0 = .ok (.aload_n 0, 1) := by decide +kernel
theorem dX9_takes_1 : decode cX9_takes 1 = .ok (.invokevirtual 92, 3) := by decide +kernel
theorem dX9_takes_4 : decode cX9_takes 4 = .ok (.ifCond .ne 5, 3) := by decide +kernel
theorem dX9_takes_7 : decode cX9_takes 7 = .ok (.iconst 0, 1) := by decide +kernel
theorem dX9_takes_8 : decode cX9_takes 8 = .ok (.ireturn, 1) := by decide +kernel
theorem dX9_takes_9 : decode cX9_takes 9 = .ok (.iload_n 1, 1) := by decide +kernel
theorem dX9_takes_10 : decode cX9_takes 10 = .ok (.ifCond .ne 13, 3) := by decide +kernel
theorem dX9_takes_13 : decode cX9_takes 13 = .ok (.aload_n 0, 1) := by decide +kernel
theorem dX9_takes_14 : decode cX9_takes 14 = .ok (.aload_n 0, 1) := by decide +kernel
theorem dX9_takes_15 : decode cX9_takes 15 = .ok (.getfield 80, 3) := by decide +kernel
theorem dX9_takes_18 : decode cX9_takes 18 = .ok (.putfield 89, 3) := by decide +kernel
theorem dX9_takes_21 : decode cX9_takes 21 = .ok (.iconst 0, 1) := by decide +kernel
theorem dX9_takes_22 : decode cX9_takes 22 = .ok (.ireturn, 1) := by decide +kernel
theorem dX9_takes_23 : decode cX9_takes 23 = .ok (.aload_n 0, 1) := by decide +kernel
theorem dX9_takes_24 : decode cX9_takes 24 = .ok (.getfield 86, 3) := by decide +kernel
theorem dX9_takes_27 : decode cX9_takes 27 = .ok (.istore_n 2, 1) := by decide +kernel
theorem dX9_takes_28 : decode cX9_takes 28 = .ok (.aload_n 0, 1) := by decide +kernel
theorem dX9_takes_29 : decode cX9_takes 29 = .ok (.invokevirtual 96, 3) := by decide +kernel
theorem dX9_takes_32 : decode cX9_takes 32 = .ok (.iload_n 2, 1) := by decide +kernel
theorem dX9_takes_33 : decode cX9_takes 33 = .ok (.ireturn, 1) := by decide +kernel
theorem dX9_number_0 : decode cX9_number 0 = .ok (.aload_n 0, 1) := by decide +kernel
theorem dX9_number_1 : decode cX9_number 1 = .ok (.aload_n 0, 1) := by decide +kernel
theorem dX9_number_2 : decode cX9_number 2 = .ok (.getfield 83, 3) := by decide +kernel
theorem dX9_number_5 : decode cX9_number 5 = .ok (.iconst 2, 1) := by decide +kernel
theorem dX9_number_6 : decode cX9_number 6 = .ok (.if_icmp .ne 19, 3) := by decide +kernel
theorem dX9_number_9 : decode cX9_number 9 = .ok (.aload_n 0, 1) := by decide +kernel
theorem dX9_number_10 : decode cX9_number 10 = .ok (.getfield 86, 3) := by decide +kernel
theorem dX9_number_13 : decode cX9_number 13 = .ok (.iload_n 1, 1) := by decide +kernel
theorem dX9_number_14 : decode cX9_number 14 = .ok (.iload_n 2, 1) := by decide +kernel
theorem dX9_number_15 : decode cX9_number 15 = .ok (.invokestatic 66, 3) := by decide +kernel
theorem dX9_number_18 : decode cX9_number 18 = .ok (.ifCond .eq 7, 3) := by decide +kernel
theorem dX9_number_21 : decode cX9_number 21 = .ok (.iconst 1, 1) := by decide +kernel
theorem dX9_number_22 : decode cX9_number 22 = .ok (.goto 4, 3) := by decide +kernel
theorem dX9_number_25 : decode cX9_number 25 = .ok (.iconst 0, 1) := by decide +kernel
theorem dX9_number_26 : decode cX9_number 26 = .ok (.invokevirtual 99, 3) := by decide +kernel
theorem dX9_number_29 : decode cX9_number 29 = .ok (.ireturn, 1) := by decide +kernel
theorem dX9_mayBegin_0 : decode cX9_mayBegin 0 = .ok (.aload_n 0, 1) := by decide +kernel
theorem dX9_mayBegin_1 : decode cX9_mayBegin 1 = .ok (.getfield 86, 3) := by decide +kernel
theorem dX9_mayBegin_4 : decode cX9_mayBegin 4 = .ok (.bipush 110, 2) := by decide +kernel
theorem dX9_mayBegin_6 : decode cX9_mayBegin 6 = .ok (.if_icmp .ne 15, 3) := by decide +kernel
theorem dX9_mayBegin_9 : decode cX9_mayBegin 9 = .ok (.iload_n 1, 1) := by decide +kernel
theorem dX9_mayBegin_10 : decode cX9_mayBegin 10 = .ok (.ifCond .ne 7, 3) := by decide +kernel
theorem dX9_mayBegin_13 : decode cX9_mayBegin 13 = .ok (.iconst 1, 1) := by decide +kernel
theorem dX9_mayBegin_14 : decode cX9_mayBegin 14 = .ok (.goto 56, 3) := by decide +kernel
theorem dX9_mayBegin_17 : decode cX9_mayBegin 17 = .ok (.iconst 0, 1) := by decide +kernel
theorem dX9_mayBegin_18 : decode cX9_mayBegin 18 = .ok (.goto 52, 3) := by decide +kernel
theorem dX9_mayBegin_21 : decode cX9_mayBegin 21 = .ok (.aload_n 0, 1) := by decide +kernel
theorem dX9_mayBegin_22 : decode cX9_mayBegin 22 = .ok (.getfield 86, 3) := by decide +kernel
theorem dX9_mayBegin_25 : decode cX9_mayBegin 25 = .ok (.bipush 112, 2) := by decide +kernel
theorem dX9_mayBegin_27 : decode cX9_mayBegin 27 = .ok (.if_icmp .ne 22, 3) := by decide +kernel
theorem dX9_mayBegin_30 : decode cX9_mayBegin 30 = .ok (.aload_n 0, 1) := by decide +kernel
theorem dX9_mayBegin_31 : decode cX9_mayBegin 31 = .ok (.getfield 13, 3) := by decide +kernel
theorem dX9_mayBegin_34 : decode cX9_mayBegin 34 = .ok (.iconst 4, 1) := by decide +kernel
theorem dX9_mayBegin_35 : decode cX9_mayBegin 35 = .ok (.iaload, 1) := by decide +kernel
theorem dX9_mayBegin_36 : decode cX9_mayBegin 36 = .ok (.bipush 7, 2) := by decide +kernel
theorem dX9_mayBegin_38 : decode cX9_mayBegin 38 = .ok (.if_icmp .ge 7, 3) := by decide +kernel
theorem dX9_mayBegin_41 : decode cX9_mayBegin 41 = .ok (.iconst 1, 1) := by decide +kernel
theorem dX9_mayBegin_42 : decode cX9_mayBegin 42 = .ok (.goto 28, 3) := by decide +kernel
theorem dX9_mayBegin_45 : decode cX9_mayBegin 45 = .ok (.iconst 0, 1) := by decide +kernel
theorem dX9_mayBegin_46 : decode cX9_mayBegin 46 = .ok (.goto 24, 3) := by decide +kernel
theorem dX9_mayBegin_49 : decode cX9_mayBegin 49 = .ok (.aload_n 0, 1) := by decide +kernel
theorem dX9_mayBegin_50 : decode cX9_mayBegin 50 = .ok (.getfield 86, 3) := by decide +kernel
theorem dX9_mayBegin_53 : decode cX9_mayBegin 53 = .ok (.bipush 113, 2) := by decide +kernel
theorem dX9_mayBegin_55 : decode cX9_mayBegin 55 = .ok (.if_icmp .eq 10, 3) := by decide +kernel
theorem dX9_mayBegin_58 : decode cX9_mayBegin 58 = .ok (.aload_n 0, 1) := by decide +kernel
theorem dX9_mayBegin_59 : decode cX9_mayBegin 59 = .ok (.getfield 103, 3) := by decide +kernel
theorem dX9_mayBegin_62 : decode cX9_mayBegin 62 = .ok (.ifCond .ne 7, 3) := by decide +kernel
theorem dX9_mayBegin_65 : decode cX9_mayBegin 65 = .ok (.iconst 1, 1) := by decide +kernel
theorem dX9_mayBegin_66 : decode cX9_mayBegin 66 = .ok (.goto 4, 3) := by decide +kernel
theorem dX9_mayBegin_69 : decode cX9_mayBegin 69 = .ok (.iconst 0, 1) := by decide +kernel
theorem dX9_mayBegin_70 : decode cX9_mayBegin 70 = .ok (.ireturn, 1) := by decide +kernel
theorem dX9_readsItem_0 : decode cX9_readsItem 0 = .ok (.iload_n 1, 1) := by decide +kernel
theorem dX9_readsItem_1 : decode cX9_readsItem 1 = .ok (.bipush 110, 2) := by decide +kernel
theorem dX9_readsItem_3 : decode cX9_readsItem 3 = .ok (.if_icmp .ne 18, 3) := by decide +kernel
theorem dX9_readsItem_6 : decode cX9_readsItem 6 = .ok (.aload_n 0, 1) := by decide +kernel
theorem dX9_readsItem_7 : decode cX9_readsItem 7 = .ok (.getfield 13, 3) := by decide +kernel
theorem dX9_readsItem_10 : decode cX9_readsItem 10 = .ok (.iconst 3, 1) := by decide +kernel
theorem dX9_readsItem_11 : decode cX9_readsItem 11 = .ok (.aload_n 0, 1) := by decide +kernel
theorem dX9_readsItem_12 : decode cX9_readsItem 12 = .ok (.iconst 1, 1) := by decide +kernel
theorem dX9_readsItem_13 : decode cX9_readsItem 13 = .ok (.iconst 4, 1) := by decide +kernel
theorem dX9_readsItem_14 : decode cX9_readsItem 14 = .ok (.invokevirtual 107, 3) := by decide +kernel
theorem dX9_readsItem_17 : decode cX9_readsItem 17 = .ok (.iastore, 1) := by decide +kernel
theorem dX9_readsItem_18 : decode cX9_readsItem 18 = .ok (.goto 200, 3) := by decide +kernel
theorem dX9_readsItem_21 : decode cX9_readsItem 21 = .ok (.iload_n 1, 1) := by decide +kernel
theorem dX9_readsItem_22 : decode cX9_readsItem 22 = .ok (.bipush 112, 2) := by decide +kernel
theorem dX9_readsItem_24 : decode cX9_readsItem 24 = .ok (.if_icmp .ne 71, 3) := by decide +kernel
theorem dX9_readsItem_27 : decode cX9_readsItem 27 = .ok (.aload_n 0, 1) := by decide +kernel
theorem dX9_readsItem_28 : decode cX9_readsItem 28 = .ok (.getfield 13, 3) := by decide +kernel
theorem dX9_readsItem_31 : decode cX9_readsItem 31 = .ok (.iconst 4, 1) := by decide +kernel
theorem dX9_readsItem_32 : decode cX9_readsItem 32 = .ok (.iaload, 1) := by decide +kernel
theorem dX9_readsItem_33 : decode cX9_readsItem 33 = .ok (.istore_n 2, 1) := by decide +kernel
theorem dX9_readsItem_34 : decode cX9_readsItem 34 = .ok (.aload_n 0, 1) := by decide +kernel
theorem dX9_readsItem_35 : decode cX9_readsItem 35 = .ok (.getfield 16, 3) := by decide +kernel
theorem dX9_readsItem_38 : decode cX9_readsItem 38 = .ok (.iload_n 2, 1) := by decide +kernel
theorem dX9_readsItem_39 : decode cX9_readsItem 39 = .ok (.aload_n 0, 1) := by decide +kernel
theorem dX9_readsItem_40 : decode cX9_readsItem 40 = .ok (.iconst 0, 1) := by decide +kernel
theorem dX9_readsItem_41 : decode cX9_readsItem 41 = .ok (.aload_n 0, 1) := by decide +kernel
theorem dX9_readsItem_42 : decode cX9_readsItem 42 = .ok (.getfield 13, 3) := by decide +kernel
theorem dX9_readsItem_45 : decode cX9_readsItem 45 = .ok (.iconst 3, 1) := by decide +kernel
theorem dX9_readsItem_46 : decode cX9_readsItem 46 = .ok (.iaload, 1) := by decide +kernel
theorem dX9_readsItem_47 : decode cX9_readsItem 47 = .ok (.iconst 1, 1) := by decide +kernel
theorem dX9_readsItem_48 : decode cX9_readsItem 48 = .ok (.isub, 1) := by decide +kernel
theorem dX9_readsItem_49 : decode cX9_readsItem 49 = .ok (.invokevirtual 107, 3) := by decide +kernel
theorem dX9_readsItem_52 : decode cX9_readsItem 52 = .ok (.iastore, 1) := by decide +kernel
theorem dX9_readsItem_53 : decode cX9_readsItem 53 = .ok (.aload_n 0, 1) := by decide +kernel
theorem dX9_readsItem_54 : decode cX9_readsItem 54 = .ok (.getfield 19, 3) := by decide +kernel
theorem dX9_readsItem_57 : decode cX9_readsItem 57 = .ok (.iload_n 2, 1) := by decide +kernel
theorem dX9_readsItem_58 : decode cX9_readsItem 58 = .ok (.aload_n 0, 1) := by decide +kernel
theorem dX9_readsItem_59 : decode cX9_readsItem 59 = .ok (.iconst 0, 1) := by decide +kernel
theorem dX9_readsItem_60 : decode cX9_readsItem 60 = .ok (.bipush 99, 2) := by decide +kernel
theorem dX9_readsItem_62 : decode cX9_readsItem 62 = .ok (.invokevirtual 107, 3) := by decide +kernel
theorem dX9_readsItem_65 : decode cX9_readsItem 65 = .ok (.iastore, 1) := by decide +kernel
theorem dX9_readsItem_66 : decode cX9_readsItem 66 = .ok (.aload_n 0, 1) := by decide +kernel
theorem dX9_readsItem_67 : decode cX9_readsItem 67 = .ok (.getfield 22, 3) := by decide +kernel
theorem dX9_readsItem_70 : decode cX9_readsItem 70 = .ok (.bipush 7, 2) := by decide +kernel
theorem dX9_readsItem_72 : decode cX9_readsItem 72 = .ok (.iload_n 2, 1) := by decide +kernel
theorem dX9_readsItem_73 : decode cX9_readsItem 73 = .ok (.iadd, 1) := by decide +kernel
theorem dX9_readsItem_74 : decode cX9_readsItem 74 = .ok (.aload_n 0, 1) := by decide +kernel
theorem dX9_readsItem_75 : decode cX9_readsItem 75 = .ok (.iconst 0, 1) := by decide +kernel
theorem dX9_readsItem_76 : decode cX9_readsItem 76 = .ok (.bipush 31, 2) := by decide +kernel
theorem dX9_readsItem_78 : decode cX9_readsItem 78 = .ok (.invokevirtual 107, 3) := by decide +kernel
theorem dX9_readsItem_81 : decode cX9_readsItem 81 = .ok (.iastore, 1) := by decide +kernel
theorem dX9_readsItem_82 : decode cX9_readsItem 82 = .ok (.aload_n 0, 1) := by decide +kernel
theorem dX9_readsItem_83 : decode cX9_readsItem 83 = .ok (.getfield 13, 3) := by decide +kernel
theorem dX9_readsItem_86 : decode cX9_readsItem 86 = .ok (.iconst 4, 1) := by decide +kernel
theorem dX9_readsItem_87 : decode cX9_readsItem 87 = .ok (.dup2, 1) := by decide +kernel
theorem dX9_readsItem_88 : decode cX9_readsItem 88 = .ok (.iaload, 1) := by decide +kernel
theorem dX9_readsItem_89 : decode cX9_readsItem 89 = .ok (.iconst 1, 1) := by decide +kernel
theorem dX9_readsItem_90 : decode cX9_readsItem 90 = .ok (.iadd, 1) := by decide +kernel
theorem dX9_readsItem_91 : decode cX9_readsItem 91 = .ok (.iastore, 1) := by decide +kernel
theorem dX9_readsItem_92 : decode cX9_readsItem 92 = .ok (.goto 126, 3) := by decide +kernel
theorem dX9_readsItem_95 : decode cX9_readsItem 95 = .ok (.iload_n 1, 1) := by decide +kernel
theorem dX9_readsItem_96 : decode cX9_readsItem 96 = .ok (.bipush 113, 2) := by decide +kernel
theorem dX9_readsItem_98 : decode cX9_readsItem 98 = .ok (.if_icmp .ne 102, 3) := by decide +kernel
theorem dX9_readsItem_101 : decode cX9_readsItem 101 = .ok (.aload_n 0, 1) := by decide +kernel
theorem dX9_readsItem_102 : decode cX9_readsItem 102 = .ok (.iconst 0, 1) := by decide +kernel
theorem dX9_readsItem_103 : decode cX9_readsItem 103 = .ok (.aload_n 0, 1) := by decide +kernel
theorem dX9_readsItem_104 : decode cX9_readsItem 104 = .ok (.getfield 13, 3) := by decide +kernel
theorem dX9_readsItem_107 : decode cX9_readsItem 107 = .ok (.iconst 4, 1) := by decide +kernel
theorem dX9_readsItem_108 : decode cX9_readsItem 108 = .ok (.iaload, 1) := by decide +kernel
theorem dX9_readsItem_109 : decode cX9_readsItem 109 = .ok (.iconst 1, 1) := by decide +kernel
theorem dX9_readsItem_110 : decode cX9_readsItem 110 = .ok (.isub, 1) := by decide +kernel
theorem dX9_readsItem_111 : decode cX9_readsItem 111 = .ok (.invokevirtual 107, 3) := by decide +kernel
theorem dX9_readsItem_114 : decode cX9_readsItem 114 = .ok (.istore_n 2, 1) := by decide +kernel
theorem dX9_readsItem_115 : decode cX9_readsItem 115 = .ok (.aload_n 0, 1) := by decide +kernel
theorem dX9_readsItem_116 : decode cX9_readsItem 116 = .ok (.aload_n 0, 1) := by decide +kernel
theorem dX9_readsItem_117 : decode cX9_readsItem 117 = .ok (.getfield 83, 3) := by decide +kernel
theorem dX9_readsItem_120 : decode cX9_readsItem 120 = .ok (.iconst 2, 1) := by decide +kernel
theorem dX9_readsItem_121 : decode cX9_readsItem 121 = .ok (.if_icmp .ne 34, 3) := by decide +kernel
theorem dX9_readsItem_124 : decode cX9_readsItem 124 = .ok (.aload_n 0, 1) := by decide +kernel
theorem dX9_readsItem_125 : decode cX9_readsItem 125 = .ok (.getfield 86, 3) := by decide +kernel
theorem dX9_readsItem_128 : decode cX9_readsItem 128 = .ok (.iconst 0, 1) := by decide +kernel
theorem dX9_readsItem_129 : decode cX9_readsItem 129 = .ok (.aload_n 0, 1) := by decide +kernel
theorem dX9_readsItem_130 : decode cX9_readsItem 130 = .ok (.getfield 13, 3) := by decide +kernel
theorem dX9_readsItem_133 : decode cX9_readsItem 133 = .ok (.iconst 4, 1) := by decide +kernel
theorem dX9_readsItem_134 : decode cX9_readsItem 134 = .ok (.iaload, 1) := by decide +kernel
theorem dX9_readsItem_135 : decode cX9_readsItem 135 = .ok (.iconst 1, 1) := by decide +kernel
theorem dX9_readsItem_136 : decode cX9_readsItem 136 = .ok (.isub, 1) := by decide +kernel
theorem dX9_readsItem_137 : decode cX9_readsItem 137 = .ok (.invokestatic 66, 3) := by decide +kernel
theorem dX9_readsItem_140 : decode cX9_readsItem 140 = .ok (.ifCond .eq 15, 3) := by decide +kernel
theorem dX9_readsItem_143 : decode cX9_readsItem 143 = .ok (.aload_n 0, 1) := by decide +kernel
theorem dX9_readsItem_144 : decode cX9_readsItem 144 = .ok (.getfield 86, 3) := by decide +kernel
theorem dX9_readsItem_147 : decode cX9_readsItem 147 = .ok (.iload_n 2, 1) := by decide +kernel
theorem dX9_readsItem_148 : decode cX9_readsItem 148 = .ok (.if_icmp .eq 7, 3) := by decide +kernel
theorem dX9_readsItem_151 : decode cX9_readsItem 151 = .ok (.iconst 1, 1) := by decide +kernel
theorem dX9_readsItem_152 : decode cX9_readsItem 152 = .ok (.goto 4, 3) := by decide +kernel
theorem dX9_readsItem_155 : decode cX9_readsItem 155 = .ok (.iconst 0, 1) := by decide +kernel
theorem dX9_readsItem_156 : decode cX9_readsItem 156 = .ok (.invokevirtual 99, 3) := by decide +kernel
theorem dX9_readsItem_159 : decode cX9_readsItem 159 = .ok (.istore_n 3, 1) := by decide +kernel
theorem dX9_readsItem_160 : decode cX9_readsItem 160 = .ok (.aload_n 0, 1) := by decide +kernel
theorem dX9_readsItem_161 : decode cX9_readsItem 161 = .ok (.invokevirtual 92, 3) := by decide +kernel
theorem dX9_readsItem_164 : decode cX9_readsItem 164 = .ok (.ifCond .eq 33, 3) := by decide +kernel
theorem dX9_readsItem_167 : decode cX9_readsItem 167 = .ok (.aload_n 0, 1) := by decide +kernel
theorem dX9_readsItem_168 : decode cX9_readsItem 168 = .ok (.getfield 25, 3) := by decide +kernel
theorem dX9_readsItem_171 : decode cX9_readsItem 171 = .ok (.bipush 7, 2) := by decide +kernel
theorem dX9_readsItem_173 : decode cX9_readsItem 173 = .ok (.iload_n 2, 1) := by decide +kernel
theorem dX9_readsItem_174 : decode cX9_readsItem 174 = .ok (.iadd, 1) := by decide +kernel
theorem dX9_readsItem_175 : decode cX9_readsItem 175 = .ok (.dup2, 1) := by decide +kernel
theorem dX9_readsItem_176 : decode cX9_readsItem 176 = .ok (.iaload, 1) := by decide +kernel
theorem dX9_readsItem_177 : decode cX9_readsItem 177 = .ok (.iconst 1, 1) := by decide +kernel
theorem dX9_readsItem_178 : decode cX9_readsItem 178 = .ok (.iload_n 3, 1) := by decide +kernel
theorem dX9_readsItem_179 : decode cX9_readsItem 179 = .ok (.ishl, 1) := by decide +kernel
theorem dX9_readsItem_180 : decode cX9_readsItem 180 = .ok (.ior, 1) := by decide +kernel
theorem dX9_readsItem_181 : decode cX9_readsItem 181 = .ok (.iastore, 1) := by decide +kernel
theorem dX9_readsItem_182 : decode cX9_readsItem 182 = .ok (.aload_n 0, 1) := by decide +kernel
theorem dX9_readsItem_183 : decode cX9_readsItem 183 = .ok (.getfield 25, 3) := by decide +kernel
theorem dX9_readsItem_186 : decode cX9_readsItem 186 = .ok (.bipush 7, 2) := by decide +kernel
theorem dX9_readsItem_188 : decode cX9_readsItem 188 = .ok (.iload_n 3, 1) := by decide +kernel
theorem dX9_readsItem_189 : decode cX9_readsItem 189 = .ok (.iadd, 1) := by decide +kernel
theorem dX9_readsItem_190 : decode cX9_readsItem 190 = .ok (.dup2, 1) := by decide +kernel
theorem dX9_readsItem_191 : decode cX9_readsItem 191 = .ok (.iaload, 1) := by decide +kernel
theorem dX9_readsItem_192 : decode cX9_readsItem 192 = .ok (.iconst 1, 1) := by decide +kernel
theorem dX9_readsItem_193 : decode cX9_readsItem 193 = .ok (.iload_n 2, 1) := by decide +kernel
theorem dX9_readsItem_194 : decode cX9_readsItem 194 = .ok (.ishl, 1) := by decide +kernel
theorem dX9_readsItem_195 : decode cX9_readsItem 195 = .ok (.ior, 1) := by decide +kernel
theorem dX9_readsItem_196 : decode cX9_readsItem 196 = .ok (.iastore, 1) := by decide +kernel
theorem dX9_readsItem_197 : decode cX9_readsItem 197 = .ok (.goto 21, 3) := by decide +kernel
theorem dX9_readsItem_200 : decode cX9_readsItem 200 = .ok (.aload_n 0, 1) := by decide +kernel
theorem dX9_readsItem_201 : decode cX9_readsItem 201 = .ok (.getfield 13, 3) := by decide +kernel
theorem dX9_readsItem_204 : decode cX9_readsItem 204 = .ok (.iconst 5, 1) := by decide +kernel
theorem dX9_readsItem_205 : decode cX9_readsItem 205 = .ok (.aload_n 0, 1) := by decide +kernel
theorem dX9_readsItem_206 : decode cX9_readsItem 206 = .ok (.iconst 0, 1) := by decide +kernel
theorem dX9_readsItem_207 : decode cX9_readsItem 207 = .ok (.bipush 15, 2) := by decide +kernel
theorem dX9_readsItem_209 : decode cX9_readsItem 209 = .ok (.invokevirtual 107, 3) := by decide +kernel
theorem dX9_readsItem_212 : decode cX9_readsItem 212 = .ok (.iastore, 1) := by decide +kernel
theorem dX9_readsItem_213 : decode cX9_readsItem 213 = .ok (.aload_n 0, 1) := by decide +kernel
theorem dX9_readsItem_214 : decode cX9_readsItem 214 = .ok (.iconst 1, 1) := by decide +kernel
theorem dX9_readsItem_215 : decode cX9_readsItem 215 = .ok (.putfield 103, 3) := by decide +kernel
theorem dX9_readsItem_218 : decode cX9_readsItem 218 = .ok (.return_, 1) := by decide +kernel
theorem dX9_republic_0 : decode cX9_republic 0 = .ok (.aload_n 0, 1) := by decide +kernel
theorem dX9_republic_1 : decode cX9_republic 1 = .ok (.iconst 0, 1) := by decide +kernel
theorem dX9_republic_2 : decode cX9_republic 2 = .ok (.putfield 62, 3) := by decide +kernel
theorem dX9_republic_5 : decode cX9_republic 5 = .ok (.aload_n 0, 1) := by decide +kernel
theorem dX9_republic_6 : decode cX9_republic 6 = .ok (.iconst (-1), 1) := by decide +kernel
theorem dX9_republic_7 : decode cX9_republic 7 = .ok (.putfield 89, 3) := by decide +kernel
theorem dX9_republic_10 : decode cX9_republic 10 = .ok (.aload_n 0, 1) := by decide +kernel
theorem dX9_republic_11 : decode cX9_republic 11 = .ok (.iconst 0, 1) := by decide +kernel
theorem dX9_republic_12 : decode cX9_republic 12 = .ok (.putfield 73, 3) := by decide +kernel
theorem dX9_republic_15 : decode cX9_republic 15 = .ok (.iconst 0, 1) := by decide +kernel
theorem dX9_republic_16 : decode cX9_republic 16 = .ok (.istore_n 1, 1) := by decide +kernel
theorem dX9_republic_17 : decode cX9_republic 17 = .ok (.aload_n 0, 1) := by decide +kernel
theorem dX9_republic_18 : decode cX9_republic 18 = .ok (.getfield 13, 3) := by decide +kernel
theorem dX9_republic_21 : decode cX9_republic 21 = .ok (.iconst 3, 1) := by decide +kernel
theorem dX9_republic_22 : decode cX9_republic 22 = .ok (.iconst 4, 1) := by decide +kernel
theorem dX9_republic_23 : decode cX9_republic 23 = .ok (.iastore, 1) := by decide +kernel
theorem dX9_republic_24 : decode cX9_republic 24 = .ok (.aload_n 0, 1) := by decide +kernel
theorem dX9_republic_25 : decode cX9_republic 25 = .ok (.getfield 13, 3) := by decide +kernel
theorem dX9_republic_28 : decode cX9_republic 28 = .ok (.iconst 4, 1) := by decide +kernel
theorem dX9_republic_29 : decode cX9_republic 29 = .ok (.iconst 0, 1) := by decide +kernel
theorem dX9_republic_30 : decode cX9_republic 30 = .ok (.iastore, 1) := by decide +kernel
theorem dX9_republic_31 : decode cX9_republic 31 = .ok (.aload_n 0, 1) := by decide +kernel
theorem dX9_republic_32 : decode cX9_republic 32 = .ok (.getfield 13, 3) := by decide +kernel
theorem dX9_republic_35 : decode cX9_republic 35 = .ok (.iconst 5, 1) := by decide +kernel
theorem dX9_republic_36 : decode cX9_republic 36 = .ok (.bipush 15, 2) := by decide +kernel
theorem dX9_republic_38 : decode cX9_republic 38 = .ok (.iastore, 1) := by decide +kernel
theorem dX9_republic_39 : decode cX9_republic 39 = .ok (.aload_n 0, 1) := by decide +kernel
theorem dX9_republic_40 : decode cX9_republic 40 = .ok (.iconst 0, 1) := by decide +kernel
theorem dX9_republic_41 : decode cX9_republic 41 = .ok (.putfield 103, 3) := by decide +kernel
theorem dX9_republic_44 : decode cX9_republic 44 = .ok (.bipush 7, 2) := by decide +kernel
theorem dX9_republic_46 : decode cX9_republic 46 = .ok (.istore_n 2, 1) := by decide +kernel
theorem dX9_republic_47 : decode cX9_republic 47 = .ok (.iload_n 2, 1) := by decide +kernel
theorem dX9_republic_48 : decode cX9_republic 48 = .ok (.bipush 14, 2) := by decide +kernel
theorem dX9_republic_50 : decode cX9_republic 50 = .ok (.if_icmp .ge 16, 3) := by decide +kernel
theorem dX9_republic_53 : decode cX9_republic 53 = .ok (.aload_n 0, 1) := by decide +kernel
theorem dX9_republic_54 : decode cX9_republic 54 = .ok (.getfield 25, 3) := by decide +kernel
theorem dX9_republic_57 : decode cX9_republic 57 = .ok (.iload_n 2, 1) := by decide +kernel
theorem dX9_republic_58 : decode cX9_republic 58 = .ok (.iconst 0, 1) := by decide +kernel
theorem dX9_republic_59 : decode cX9_republic 59 = .ok (.iastore, 1) := by decide +kernel
theorem dX9_republic_60 : decode cX9_republic 60 = .ok (.iinc 2 1, 3) := by decide +kernel
theorem dX9_republic_63 : decode cX9_republic 63 = .ok (.goto (-16), 3) := by decide +kernel
theorem dX9_republic_66 : decode cX9_republic 66 = .ok (.aload_n 0, 1) := by decide +kernel
theorem dX9_republic_67 : decode cX9_republic 67 = .ok (.invokevirtual 96, 3) := by decide +kernel
theorem dX9_republic_70 : decode cX9_republic 70 = .ok (.aload_n 0, 1) := by decide +kernel
theorem dX9_republic_71 : decode cX9_republic 71 = .ok (.invokevirtual 92, 3) := by decide +kernel
theorem dX9_republic_74 : decode cX9_republic 74 = .ok (.ifCond .eq 72, 3) := by decide +kernel
theorem dX9_republic_77 : decode cX9_republic 77 = .ok (.aload_n 0, 1) := by decide +kernel
theorem dX9_republic_78 : decode cX9_republic 78 = .ok (.getfield 83, 3) := by decide +kernel
theorem dX9_republic_81 : decode cX9_republic 81 = .ok (.ifCond .eq 65, 3) := by decide +kernel
theorem dX9_republic_84 : decode cX9_republic 84 = .ok (.aload_n 0, 1) := by decide +kernel
theorem dX9_republic_85 : decode cX9_republic 85 = .ok (.aload_n 0, 1) := by decide +kernel
theorem dX9_republic_86 : decode cX9_republic 86 = .ok (.getfield 83, 3) := by decide +kernel
theorem dX9_republic_89 : decode cX9_republic 89 = .ok (.iconst 1, 1) := by decide +kernel
theorem dX9_republic_90 : decode cX9_republic 90 = .ok (.if_icmp .ne 15, 3) := by decide +kernel
theorem dX9_republic_93 : decode cX9_republic 93 = .ok (.aload_n 0, 1) := by decide +kernel
theorem dX9_republic_94 : decode cX9_republic 94 = .ok (.iload_n 1, 1) := by decide +kernel
theorem dX9_republic_95 : decode cX9_republic 95 = .ok (.invokevirtual 111, 3) := by decide +kernel
theorem dX9_republic_98 : decode cX9_republic 98 = .ok (.ifCond .eq 7, 3) := by decide +kernel
theorem dX9_republic_101 : decode cX9_republic 101 = .ok (.iconst 1, 1) := by decide +kernel
theorem dX9_republic_102 : decode cX9_republic 102 = .ok (.goto 4, 3) := by decide +kernel
theorem dX9_republic_105 : decode cX9_republic 105 = .ok (.iconst 0, 1) := by decide +kernel
theorem dX9_republic_106 : decode cX9_republic 106 = .ok (.invokevirtual 99, 3) := by decide +kernel
theorem dX9_republic_109 : decode cX9_republic 109 = .ok (.istore_n 2, 1) := by decide +kernel
theorem dX9_republic_110 : decode cX9_republic 110 = .ok (.aload_n 0, 1) := by decide +kernel
theorem dX9_republic_111 : decode cX9_republic 111 = .ok (.invokevirtual 92, 3) := by decide +kernel
theorem dX9_republic_114 : decode cX9_republic 114 = .ok (.ifCond .eq 8, 3) := by decide +kernel
theorem dX9_republic_117 : decode cX9_republic 117 = .ok (.aload_n 0, 1) := by decide +kernel
theorem dX9_republic_118 : decode cX9_republic 118 = .ok (.iload_n 2, 1) := by decide +kernel
theorem dX9_republic_119 : decode cX9_republic 119 = .ok (.invokevirtual 115, 3) := by decide +kernel
theorem dX9_republic_122 : decode cX9_republic 122 = .ok (.aload_n 0, 1) := by decide +kernel
theorem dX9_republic_123 : decode cX9_republic 123 = .ok (.aload_n 0, 1) := by decide +kernel
theorem dX9_republic_124 : decode cX9_republic 124 = .ok (.getfield 83, 3) := by decide +kernel
theorem dX9_republic_127 : decode cX9_republic 127 = .ok (.iconst 3, 1) := by decide +kernel
theorem dX9_republic_128 : decode cX9_republic 128 = .ok (.if_icmp .ne 7, 3) := by decide +kernel
theorem dX9_republic_131 : decode cX9_republic 131 = .ok (.iconst 1, 1) := by decide +kernel
theorem dX9_republic_132 : decode cX9_republic 132 = .ok (.goto 4, 3) := by decide +kernel
theorem dX9_republic_135 : decode cX9_republic 135 = .ok (.iconst 0, 1) := by decide +kernel
theorem dX9_republic_136 : decode cX9_republic 136 = .ok (.invokevirtual 99, 3) := by decide +kernel
theorem dX9_republic_139 : decode cX9_republic 139 = .ok (.pop, 1) := by decide +kernel
theorem dX9_republic_140 : decode cX9_republic 140 = .ok (.iinc 1 1, 3) := by decide +kernel
theorem dX9_republic_143 : decode cX9_republic 143 = .ok (.goto (-73), 3) := by decide +kernel
theorem dX9_republic_146 : decode cX9_republic 146 = .ok (.aload_n 0, 1) := by decide +kernel
theorem dX9_republic_147 : decode cX9_republic 147 = .ok (.invokevirtual 92, 3) := by decide +kernel
theorem dX9_republic_150 : decode cX9_republic 150 = .ok (.ifCond .ne 11, 3) := by decide +kernel
theorem dX9_republic_153 : decode cX9_republic 153 = .ok (.bipush (-10), 2) := by decide +kernel
theorem dX9_republic_155 : decode cX9_republic 155 = .ok (.aload_n 0, 1) := by decide +kernel
theorem dX9_republic_156 : decode cX9_republic 156 = .ok (.getfield 89, 3) := by decide +kernel
theorem dX9_republic_159 : decode cX9_republic 159 = .ok (.isub, 1) := by decide +kernel
theorem dX9_republic_160 : decode cX9_republic 160 = .ok (.ireturn, 1) := by decide +kernel
theorem dX9_republic_161 : decode cX9_republic 161 = .ok (.aload_n 0, 1) := by decide +kernel
theorem dX9_republic_162 : decode cX9_republic 162 = .ok (.invokevirtual 119, 3) := by decide +kernel
theorem dX9_republic_165 : decode cX9_republic 165 = .ok (.iload_n 1, 1) := by decide +kernel
theorem dX9_republic_166 : decode cX9_republic 166 = .ok (.ireturn, 1) := by decide +kernel
theorem dX9_settles_0 : decode cX9_settles 0 = .ok (.aload_n 0, 1) := by decide +kernel
theorem dX9_settles_1 : decode cX9_settles 1 = .ok (.getfield 13, 3) := by decide +kernel
theorem dX9_settles_4 : decode cX9_settles 4 = .ok (.iconst 0, 1) := by decide +kernel
theorem dX9_settles_5 : decode cX9_settles 5 = .ok (.aload_n 0, 1) := by decide +kernel
theorem dX9_settles_6 : decode cX9_settles 6 = .ok (.getfield 13, 3) := by decide +kernel
theorem dX9_settles_9 : decode cX9_settles 9 = .ok (.iconst 3, 1) := by decide +kernel
theorem dX9_settles_10 : decode cX9_settles 10 = .ok (.iaload, 1) := by decide +kernel
theorem dX9_settles_11 : decode cX9_settles 11 = .ok (.iastore, 1) := by decide +kernel
theorem dX9_settles_12 : decode cX9_settles 12 = .ok (.aload_n 0, 1) := by decide +kernel
theorem dX9_settles_13 : decode cX9_settles 13 = .ok (.getfield 13, 3) := by decide +kernel
theorem dX9_settles_16 : decode cX9_settles 16 = .ok (.iconst 1, 1) := by decide +kernel
theorem dX9_settles_17 : decode cX9_settles 17 = .ok (.aload_n 0, 1) := by decide +kernel
theorem dX9_settles_18 : decode cX9_settles 18 = .ok (.getfield 13, 3) := by decide +kernel
theorem dX9_settles_21 : decode cX9_settles 21 = .ok (.iconst 4, 1) := by decide +kernel
theorem dX9_settles_22 : decode cX9_settles 22 = .ok (.iaload, 1) := by decide +kernel
theorem dX9_settles_23 : decode cX9_settles 23 = .ok (.iastore, 1) := by decide +kernel
theorem dX9_settles_24 : decode cX9_settles 24 = .ok (.iconst 0, 1) := by decide +kernel
theorem dX9_settles_25 : decode cX9_settles 25 = .ok (.istore_n 1, 1) := by decide +kernel
theorem dX9_settles_26 : decode cX9_settles 26 = .ok (.iload_n 1, 1) := by decide +kernel
theorem dX9_settles_27 : decode cX9_settles 27 = .ok (.bipush 25, 2) := by decide +kernel
theorem dX9_settles_29 : decode cX9_settles 29 = .ok (.if_icmp .ge 16, 3) := by decide +kernel
theorem dX9_settles_32 : decode cX9_settles 32 = .ok (.aload_n 0, 1) := by decide +kernel
theorem dX9_settles_33 : decode cX9_settles 33 = .ok (.getfield 28, 3) := by decide +kernel
theorem dX9_settles_36 : decode cX9_settles 36 = .ok (.iload_n 1, 1) := by decide +kernel
theorem dX9_settles_37 : decode cX9_settles 37 = .ok (.iconst 0, 1) := by decide +kernel
theorem dX9_settles_38 : decode cX9_settles 38 = .ok (.iastore, 1) := by decide +kernel
theorem dX9_settles_39 : decode cX9_settles 39 = .ok (.iinc 1 1, 3) := by decide +kernel
theorem dX9_settles_42 : decode cX9_settles 42 = .ok (.goto (-16), 3) := by decide +kernel
theorem dX9_settles_45 : decode cX9_settles 45 = .ok (.iconst 0, 1) := by decide +kernel
theorem dX9_settles_46 : decode cX9_settles 46 = .ok (.istore_n 1, 1) := by decide +kernel
theorem dX9_settles_47 : decode cX9_settles 47 = .ok (.iload_n 1, 1) := by decide +kernel
theorem dX9_settles_48 : decode cX9_settles 48 = .ok (.bipush 7, 2) := by decide +kernel
theorem dX9_settles_50 : decode cX9_settles 50 = .ok (.if_icmp .ge 96, 3) := by decide +kernel
theorem dX9_settles_53 : decode cX9_settles 53 = .ok (.aload_n 0, 1) := by decide +kernel
theorem dX9_settles_54 : decode cX9_settles 54 = .ok (.getfield 22, 3) := by decide +kernel
theorem dX9_settles_57 : decode cX9_settles 57 = .ok (.iload_n 1, 1) := by decide +kernel
theorem dX9_settles_58 : decode cX9_settles 58 = .ok (.aload_n 0, 1) := by decide +kernel
theorem dX9_settles_59 : decode cX9_settles 59 = .ok (.getfield 22, 3) := by decide +kernel
theorem dX9_settles_62 : decode cX9_settles 62 = .ok (.bipush 7, 2) := by decide +kernel
theorem dX9_settles_64 : decode cX9_settles 64 = .ok (.iload_n 1, 1) := by decide +kernel
theorem dX9_settles_65 : decode cX9_settles 65 = .ok (.iadd, 1) := by decide +kernel
theorem dX9_settles_66 : decode cX9_settles 66 = .ok (.iaload, 1) := by decide +kernel
theorem dX9_settles_67 : decode cX9_settles 67 = .ok (.iastore, 1) := by decide +kernel
theorem dX9_settles_68 : decode cX9_settles 68 = .ok (.aload_n 0, 1) := by decide +kernel
theorem dX9_settles_69 : decode cX9_settles 69 = .ok (.getfield 25, 3) := by decide +kernel
theorem dX9_settles_72 : decode cX9_settles 72 = .ok (.iload_n 1, 1) := by decide +kernel
theorem dX9_settles_73 : decode cX9_settles 73 = .ok (.aload_n 0, 1) := by decide +kernel
theorem dX9_settles_74 : decode cX9_settles 74 = .ok (.getfield 25, 3) := by decide +kernel
theorem dX9_settles_77 : decode cX9_settles 77 = .ok (.bipush 7, 2) := by decide +kernel
theorem dX9_settles_79 : decode cX9_settles 79 = .ok (.iload_n 1, 1) := by decide +kernel
theorem dX9_settles_80 : decode cX9_settles 80 = .ok (.iadd, 1) := by decide +kernel
theorem dX9_settles_81 : decode cX9_settles 81 = .ok (.iaload, 1) := by decide +kernel
theorem dX9_settles_82 : decode cX9_settles 82 = .ok (.iastore, 1) := by decide +kernel
theorem dX9_settles_83 : decode cX9_settles 83 = .ok (.aload_n 0, 1) := by decide +kernel
theorem dX9_settles_84 : decode cX9_settles 84 = .ok (.getfield 28, 3) := by decide +kernel
theorem dX9_settles_87 : decode cX9_settles 87 = .ok (.iconst 0, 1) := by decide +kernel
theorem dX9_settles_88 : decode cX9_settles 88 = .ok (.iload_n 1, 1) := by decide +kernel
theorem dX9_settles_89 : decode cX9_settles 89 = .ok (.iadd, 1) := by decide +kernel
theorem dX9_settles_90 : decode cX9_settles 90 = .ok (.iload_n 1, 1) := by decide +kernel
theorem dX9_settles_91 : decode cX9_settles 91 = .ok (.aload_n 0, 1) := by decide +kernel
theorem dX9_settles_92 : decode cX9_settles 92 = .ok (.getfield 13, 3) := by decide +kernel
theorem dX9_settles_95 : decode cX9_settles 95 = .ok (.iconst 1, 1) := by decide +kernel
theorem dX9_settles_96 : decode cX9_settles 96 = .ok (.iaload, 1) := by decide +kernel
theorem dX9_settles_97 : decode cX9_settles 97 = .ok (.if_icmp .ge 12, 3) := by decide +kernel
theorem dX9_settles_100 : decode cX9_settles 100 = .ok (.aload_n 0, 1) := by decide +kernel
theorem dX9_settles_101 : decode cX9_settles 101 = .ok (.getfield 16, 3) := by decide +kernel
theorem dX9_settles_104 : decode cX9_settles 104 = .ok (.iload_n 1, 1) := by decide +kernel
theorem dX9_settles_105 : decode cX9_settles 105 = .ok (.iaload, 1) := by decide +kernel
theorem dX9_settles_106 : decode cX9_settles 106 = .ok (.goto 4, 3) := by decide +kernel
theorem dX9_settles_109 : decode cX9_settles 109 = .ok (.iconst 0, 1) := by decide +kernel
theorem dX9_settles_110 : decode cX9_settles 110 = .ok (.iastore, 1) := by decide +kernel
theorem dX9_settles_111 : decode cX9_settles 111 = .ok (.aload_n 0, 1) := by decide +kernel
theorem dX9_settles_112 : decode cX9_settles 112 = .ok (.getfield 28, 3) := by decide +kernel
theorem dX9_settles_115 : decode cX9_settles 115 = .ok (.bipush 7, 2) := by decide +kernel
theorem dX9_settles_117 : decode cX9_settles 117 = .ok (.iload_n 1, 1) := by decide +kernel
theorem dX9_settles_118 : decode cX9_settles 118 = .ok (.iadd, 1) := by decide +kernel
theorem dX9_settles_119 : decode cX9_settles 119 = .ok (.iload_n 1, 1) := by decide +kernel
theorem dX9_settles_120 : decode cX9_settles 120 = .ok (.aload_n 0, 1) := by decide +kernel
theorem dX9_settles_121 : decode cX9_settles 121 = .ok (.getfield 13, 3) := by decide +kernel
theorem dX9_settles_124 : decode cX9_settles 124 = .ok (.iconst 1, 1) := by decide +kernel
theorem dX9_settles_125 : decode cX9_settles 125 = .ok (.iaload, 1) := by decide +kernel
theorem dX9_settles_126 : decode cX9_settles 126 = .ok (.if_icmp .ge 12, 3) := by decide +kernel
theorem dX9_settles_129 : decode cX9_settles 129 = .ok (.aload_n 0, 1) := by decide +kernel
theorem dX9_settles_130 : decode cX9_settles 130 = .ok (.getfield 19, 3) := by decide +kernel
theorem dX9_settles_133 : decode cX9_settles 133 = .ok (.iload_n 1, 1) := by decide +kernel
theorem dX9_settles_134 : decode cX9_settles 134 = .ok (.iaload, 1) := by decide +kernel
theorem dX9_settles_135 : decode cX9_settles 135 = .ok (.goto 4, 3) := by decide +kernel
theorem dX9_settles_138 : decode cX9_settles 138 = .ok (.iconst 0, 1) := by decide +kernel
theorem dX9_settles_139 : decode cX9_settles 139 = .ok (.iastore, 1) := by decide +kernel
theorem dX9_settles_140 : decode cX9_settles 140 = .ok (.iinc 1 1, 3) := by decide +kernel
theorem dX9_settles_143 : decode cX9_settles 143 = .ok (.goto (-96), 3) := by decide +kernel
theorem dX9_settles_146 : decode cX9_settles 146 = .ok (.aload_n 0, 1) := by decide +kernel
theorem dX9_settles_147 : decode cX9_settles 147 = .ok (.getfield 28, 3) := by decide +kernel
theorem dX9_settles_150 : decode cX9_settles 150 = .ok (.bipush 22, 2) := by decide +kernel
theorem dX9_settles_152 : decode cX9_settles 152 = .ok (.aload_n 0, 1) := by decide +kernel
theorem dX9_settles_153 : decode cX9_settles 153 = .ok (.getfield 13, 3) := by decide +kernel
theorem dX9_settles_156 : decode cX9_settles 156 = .ok (.iconst 5, 1) := by decide +kernel
theorem dX9_settles_157 : decode cX9_settles 157 = .ok (.iaload, 1) := by decide +kernel
theorem dX9_settles_158 : decode cX9_settles 158 = .ok (.iastore, 1) := by decide +kernel
theorem dX9_settles_159 : decode cX9_settles 159 = .ok (.aload_n 0, 1) := by decide +kernel
theorem dX9_settles_160 : decode cX9_settles 160 = .ok (.iconst 0, 1) := by decide +kernel
theorem dX9_settles_161 : decode cX9_settles 161 = .ok (.putfield 70, 3) := by decide +kernel
theorem dX9_settles_164 : decode cX9_settles 164 = .ok (.aload_n 0, 1) := by decide +kernel
theorem dX9_settles_165 : decode cX9_settles 165 = .ok (.iconst 0, 1) := by decide +kernel
theorem dX9_settles_166 : decode cX9_settles 166 = .ok (.putfield 122, 3) := by decide +kernel
theorem dX9_settles_169 : decode cX9_settles 169 = .ok (.aload_n 0, 1) := by decide +kernel
theorem dX9_settles_170 : decode cX9_settles 170 = .ok (.iconst 0, 1) := by decide +kernel
theorem dX9_settles_171 : decode cX9_settles 171 = .ok (.putfield 125, 3) := by decide +kernel
theorem dX9_settles_174 : decode cX9_settles 174 = .ok (.aload_n 0, 1) := by decide +kernel
theorem dX9_settles_175 : decode cX9_settles 175 = .ok (.iconst 0, 1) := by decide +kernel
theorem dX9_settles_176 : decode cX9_settles 176 = .ok (.putfield 128, 3) := by decide +kernel
theorem dX9_settles_179 : decode cX9_settles 179 = .ok (.aload_n 0, 1) := by decide +kernel
theorem dX9_settles_180 : decode cX9_settles 180 = .ok (.getfield 37, 3) := by decide +kernel
theorem dX9_settles_183 : decode cX9_settles 183 = .ok (.iconst 0, 1) := by decide +kernel
theorem dX9_settles_184 : decode cX9_settles 184 = .ok (.iconst 0, 1) := by decide +kernel
theorem dX9_settles_185 : decode cX9_settles 185 = .ok (.bastore, 1) := by decide +kernel
theorem dX9_settles_186 : decode cX9_settles 186 = .ok (.aload_n 0, 1) := by decide +kernel
theorem dX9_settles_187 : decode cX9_settles 187 = .ok (.getfield 37, 3) := by decide +kernel
theorem dX9_settles_190 : decode cX9_settles 190 = .ok (.iconst 1, 1) := by decide +kernel
theorem dX9_settles_191 : decode cX9_settles 191 = .ok (.iconst 0, 1) := by decide +kernel
theorem dX9_settles_192 : decode cX9_settles 192 = .ok (.bastore, 1) := by decide +kernel
theorem dX9_settles_193 : decode cX9_settles 193 = .ok (.return_, 1) := by decide +kernel
theorem dX9_isPerson_0 : decode cX9_isPerson 0 = .ok (.iload_n 1, 1) := by decide +kernel
theorem dX9_isPerson_1 : decode cX9_isPerson 1 = .ok (.iconst 0, 1) := by decide +kernel
theorem dX9_isPerson_2 : decode cX9_isPerson 2 = .ok (.aload_n 0, 1) := by decide +kernel
theorem dX9_isPerson_3 : decode cX9_isPerson 3 = .ok (.getfield 13, 3) := by decide +kernel
theorem dX9_isPerson_6 : decode cX9_isPerson 6 = .ok (.iconst 1, 1) := by decide +kernel
theorem dX9_isPerson_7 : decode cX9_isPerson 7 = .ok (.iaload, 1) := by decide +kernel
theorem dX9_isPerson_8 : decode cX9_isPerson 8 = .ok (.iconst 1, 1) := by decide +kernel
theorem dX9_isPerson_9 : decode cX9_isPerson 9 = .ok (.isub, 1) := by decide +kernel
theorem dX9_isPerson_10 : decode cX9_isPerson 10 = .ok (.invokestatic 66, 3) := by decide +kernel
theorem dX9_isPerson_13 : decode cX9_isPerson 13 = .ok (.ireturn, 1) := by decide +kernel
theorem dX9_isName_0 : decode cX9_isName 0 = .ok (.iload_n 1, 1) := by decide +kernel
theorem dX9_isName_1 : decode cX9_isName 1 = .ok (.iconst 0, 1) := by decide +kernel
theorem dX9_isName_2 : decode cX9_isName 2 = .ok (.aload_n 0, 1) := by decide +kernel
theorem dX9_isName_3 : decode cX9_isName 3 = .ok (.getfield 13, 3) := by decide +kernel
theorem dX9_isName_6 : decode cX9_isName 6 = .ok (.iconst 0, 1) := by decide +kernel
theorem dX9_isName_7 : decode cX9_isName 7 = .ok (.iaload, 1) := by decide +kernel
theorem dX9_isName_8 : decode cX9_isName 8 = .ok (.iconst 1, 1) := by decide +kernel
theorem dX9_isName_9 : decode cX9_isName 9 = .ok (.isub, 1) := by decide +kernel
theorem dX9_isName_10 : decode cX9_isName 10 = .ok (.invokestatic 66, 3) := by decide +kernel
theorem dX9_isName_13 : decode cX9_isName 13 = .ok (.ireturn, 1) := by decide +kernel
theorem dX9_peopleOf_0 : decode cX9_peopleOf 0 = .ok (.iconst 0, 1) := by decide +kernel
theorem dX9_peopleOf_1 : decode cX9_peopleOf 1 = .ok (.istore_n 3, 1) := by decide +kernel
theorem dX9_peopleOf_2 : decode cX9_peopleOf 2 = .ok (.iconst 0, 1) := by decide +kernel
theorem dX9_peopleOf_3 : decode cX9_peopleOf 3 = .ok (.istore 4, 2) := by decide +kernel
theorem dX9_peopleOf_5 : decode cX9_peopleOf 5 = .ok (.iload 4, 2) := by decide +kernel
theorem dX9_peopleOf_7 : decode cX9_peopleOf 7 = .ok (.aload_n 0, 1) := by decide +kernel
theorem dX9_peopleOf_8 : decode cX9_peopleOf 8 = .ok (.getfield 13, 3) := by decide +kernel
theorem dX9_peopleOf_11 : decode cX9_peopleOf 11 = .ok (.iconst 1, 1) := by decide +kernel
theorem dX9_peopleOf_12 : decode cX9_peopleOf 12 = .ok (.iaload, 1) := by decide +kernel
theorem dX9_peopleOf_13 : decode cX9_peopleOf 13 = .ok (.if_icmp .ge 30, 3) := by decide +kernel
theorem dX9_peopleOf_16 : decode cX9_peopleOf 16 = .ok (.iload_n 3, 1) := by decide +kernel
theorem dX9_peopleOf_17 : decode cX9_peopleOf 17 = .ok (.aload_n 1, 1) := by decide +kernel
theorem dX9_peopleOf_18 : decode cX9_peopleOf 18 = .ok (.iconst 0, 1) := by decide +kernel
theorem dX9_peopleOf_19 : decode cX9_peopleOf 19 = .ok (.iload 4, 2) := by decide +kernel
theorem dX9_peopleOf_21 : decode cX9_peopleOf 21 = .ok (.iadd, 1) := by decide +kernel
theorem dX9_peopleOf_22 : decode cX9_peopleOf 22 = .ok (.iaload, 1) := by decide +kernel
theorem dX9_peopleOf_23 : decode cX9_peopleOf 23 = .ok (.iload_n 2, 1) := by decide +kernel
theorem dX9_peopleOf_24 : decode cX9_peopleOf 24 = .ok (.if_icmp .ne 10, 3) := by decide +kernel
theorem dX9_peopleOf_27 : decode cX9_peopleOf 27 = .ok (.iconst 1, 1) := by decide +kernel
theorem dX9_peopleOf_28 : decode cX9_peopleOf 28 = .ok (.iload 4, 2) := by decide +kernel
theorem dX9_peopleOf_30 : decode cX9_peopleOf 30 = .ok (.ishl, 1) := by decide +kernel
theorem dX9_peopleOf_31 : decode cX9_peopleOf 31 = .ok (.goto 4, 3) := by decide +kernel
theorem dX9_peopleOf_34 : decode cX9_peopleOf 34 = .ok (.iconst 0, 1) := by decide +kernel
theorem dX9_peopleOf_35 : decode cX9_peopleOf 35 = .ok (.ior, 1) := by decide +kernel
theorem dX9_peopleOf_36 : decode cX9_peopleOf 36 = .ok (.istore_n 3, 1) := by decide +kernel
theorem dX9_peopleOf_37 : decode cX9_peopleOf 37 = .ok (.iinc 4 1, 3) := by decide +kernel
theorem dX9_peopleOf_40 : decode cX9_peopleOf 40 = .ok (.goto (-35), 3) := by decide +kernel
theorem dX9_peopleOf_43 : decode cX9_peopleOf 43 = .ok (.iload_n 3, 1) := by decide +kernel
theorem dX9_peopleOf_44 : decode cX9_peopleOf 44 = .ok (.ireturn, 1) := by decide +kernel
theorem dX9_isLaw_0 : decode cX9_isLaw 0 = .ok (.aload_n 0, 1) := by decide +kernel
theorem dX9_isLaw_1 : decode cX9_isLaw 1 = .ok (.bipush 22, 2) := by decide +kernel
theorem dX9_isLaw_3 : decode cX9_isLaw 3 = .ok (.iaload, 1) := by decide +kernel
theorem dX9_isLaw_4 : decode cX9_isLaw 4 = .ok (.iload_n 1, 1) := by decide +kernel
theorem dX9_isLaw_5 : decode cX9_isLaw 5 = .ok (.iand, 1) := by decide +kernel
theorem dX9_isLaw_6 : decode cX9_isLaw 6 = .ok (.ifCond .eq 7, 3) := by decide +kernel
theorem dX9_isLaw_9 : decode cX9_isLaw 9 = .ok (.iconst 1, 1) := by decide +kernel
theorem dX9_isLaw_10 : decode cX9_isLaw 10 = .ok (.goto 4, 3) := by decide +kernel
theorem dX9_isLaw_13 : decode cX9_isLaw 13 = .ok (.iconst 0, 1) := by decide +kernel
theorem dX9_isLaw_14 : decode cX9_isLaw 14 = .ok (.ireturn, 1) := by decide +kernel
theorem dX9_sumOf_0 : decode cX9_sumOf 0 = .ok (.iconst 0, 1) := by decide +kernel
theorem dX9_sumOf_1 : decode cX9_sumOf 1 = .ok (.istore 4, 2) := by decide +kernel
theorem dX9_sumOf_3 : decode cX9_sumOf 3 = .ok (.iconst 0, 1) := by decide +kernel
theorem dX9_sumOf_4 : decode cX9_sumOf 4 = .ok (.istore 5, 2) := by decide +kernel
theorem dX9_sumOf_6 : decode cX9_sumOf 6 = .ok (.iload 5, 2) := by decide +kernel
theorem dX9_sumOf_8 : decode cX9_sumOf 8 = .ok (.aload_n 0, 1) := by decide +kernel
theorem dX9_sumOf_9 : decode cX9_sumOf 9 = .ok (.getfield 13, 3) := by decide +kernel
theorem dX9_sumOf_12 : decode cX9_sumOf 12 = .ok (.iconst 1, 1) := by decide +kernel
theorem dX9_sumOf_13 : decode cX9_sumOf 13 = .ok (.iaload, 1) := by decide +kernel
theorem dX9_sumOf_14 : decode cX9_sumOf 14 = .ok (.if_icmp .ge 34, 3) := by decide +kernel
theorem dX9_sumOf_17 : decode cX9_sumOf 17 = .ok (.iload 4, 2) := by decide +kernel
theorem dX9_sumOf_19 : decode cX9_sumOf 19 = .ok (.iload_n 3, 1) := by decide +kernel
theorem dX9_sumOf_20 : decode cX9_sumOf 20 = .ok (.iload 5, 2) := by decide +kernel
theorem dX9_sumOf_22 : decode cX9_sumOf 22 = .ok (.ishr, 1) := by decide +kernel
theorem dX9_sumOf_23 : decode cX9_sumOf 23 = .ok (.iconst 1, 1) := by decide +kernel
theorem dX9_sumOf_24 : decode cX9_sumOf 24 = .ok (.iand, 1) := by decide +kernel
theorem dX9_sumOf_25 : decode cX9_sumOf 25 = .ok (.iconst 1, 1) := by decide +kernel
theorem dX9_sumOf_26 : decode cX9_sumOf 26 = .ok (.if_icmp .ne 12, 3) := by decide +kernel
theorem dX9_sumOf_29 : decode cX9_sumOf 29 = .ok (.aload_n 1, 1) := by decide +kernel
theorem dX9_sumOf_30 : decode cX9_sumOf 30 = .ok (.iload_n 2, 1) := by decide +kernel
theorem dX9_sumOf_31 : decode cX9_sumOf 31 = .ok (.iload 5, 2) := by decide +kernel
theorem dX9_sumOf_33 : decode cX9_sumOf 33 = .ok (.iadd, 1) := by decide +kernel
theorem dX9_sumOf_34 : decode cX9_sumOf 34 = .ok (.iaload, 1) := by decide +kernel
theorem dX9_sumOf_35 : decode cX9_sumOf 35 = .ok (.goto 4, 3) := by decide +kernel
theorem dX9_sumOf_38 : decode cX9_sumOf 38 = .ok (.iconst 0, 1) := by decide +kernel
theorem dX9_sumOf_39 : decode cX9_sumOf 39 = .ok (.iadd, 1) := by decide +kernel
theorem dX9_sumOf_40 : decode cX9_sumOf 40 = .ok (.istore 4, 2) := by decide +kernel
theorem dX9_sumOf_42 : decode cX9_sumOf 42 = .ok (.iinc 5 1, 3) := by decide +kernel
theorem dX9_sumOf_45 : decode cX9_sumOf 45 = .ok (.goto (-39), 3) := by decide +kernel
theorem dX9_sumOf_48 : decode cX9_sumOf 48 = .ok (.iload 4, 2) := by decide +kernel
theorem dX9_sumOf_50 : decode cX9_sumOf 50 = .ok (.ireturn, 1) := by decide +kernel
theorem dX9_limps_0 : decode cX9_limps 0 = .ok (.aload_n 1, 1) := by decide +kernel
theorem dX9_limps_1 : decode cX9_limps 1 = .ok (.iconst 1, 1) := by decide +kernel
theorem dX9_limps_2 : decode cX9_limps 2 = .ok (.invokestatic 131, 3) := by decide +kernel
theorem dX9_limps_5 : decode cX9_limps 5 = .ok (.ifCond .eq 16, 3) := by decide +kernel
theorem dX9_limps_8 : decode cX9_limps 8 = .ok (.aload_n 0, 1) := by decide +kernel
theorem dX9_limps_9 : decode cX9_limps 9 = .ok (.aload_n 1, 1) := by decide +kernel
theorem dX9_limps_10 : decode cX9_limps 10 = .ok (.aload_n 1, 1) := by decide +kernel
theorem dX9_limps_11 : decode cX9_limps 11 = .ok (.iconst 0, 1) := by decide +kernel
theorem dX9_limps_12 : decode cX9_limps 12 = .ok (.iload_n 2, 1) := by decide +kernel
theorem dX9_limps_13 : decode cX9_limps 13 = .ok (.iadd, 1) := by decide +kernel
theorem dX9_limps_14 : decode cX9_limps 14 = .ok (.iaload, 1) := by decide +kernel
theorem dX9_limps_15 : decode cX9_limps 15 = .ok (.invokevirtual 135, 3) := by decide +kernel
theorem dX9_limps_18 : decode cX9_limps 18 = .ok (.goto 6, 3) := by decide +kernel
theorem dX9_limps_21 : decode cX9_limps 21 = .ok (.iconst 1, 1) := by decide +kernel
theorem dX9_limps_22 : decode cX9_limps 22 = .ok (.iload_n 2, 1) := by decide +kernel
theorem dX9_limps_23 : decode cX9_limps 23 = .ok (.ishl, 1) := by decide +kernel
theorem dX9_limps_24 : decode cX9_limps 24 = .ok (.istore_n 3, 1) := by decide +kernel
theorem dX9_limps_25 : decode cX9_limps 25 = .ok (.iload_n 3, 1) := by decide +kernel
theorem dX9_limps_26 : decode cX9_limps 26 = .ok (.aload_n 1, 1) := by decide +kernel
theorem dX9_limps_27 : decode cX9_limps 27 = .ok (.bipush 21, 2) := by decide +kernel
theorem dX9_limps_29 : decode cX9_limps 29 = .ok (.iaload, 1) := by decide +kernel
theorem dX9_limps_30 : decode cX9_limps 30 = .ok (.iand, 1) := by decide +kernel
theorem dX9_limps_31 : decode cX9_limps 31 = .ok (.ifCond .eq 7, 3) := by decide +kernel
theorem dX9_limps_34 : decode cX9_limps 34 = .ok (.iconst 1, 1) := by decide +kernel
theorem dX9_limps_35 : decode cX9_limps 35 = .ok (.goto 4, 3) := by decide +kernel
theorem dX9_limps_38 : decode cX9_limps 38 = .ok (.iconst 0, 1) := by decide +kernel
theorem dX9_limps_39 : decode cX9_limps 39 = .ok (.ireturn, 1) := by decide +kernel
theorem dX9_fame_0 : decode cX9_fame 0 = .ok (.aload_n 1, 1) := by decide +kernel
theorem dX9_fame_1 : decode cX9_fame 1 = .ok (.bipush 8, 2) := by decide +kernel
theorem dX9_fame_3 : decode cX9_fame 3 = .ok (.invokestatic 131, 3) := by decide +kernel
theorem dX9_fame_6 : decode cX9_fame 6 = .ok (.ifCond .eq 23, 3) := by decide +kernel
theorem dX9_fame_9 : decode cX9_fame 9 = .ok (.aload_n 0, 1) := by decide +kernel
theorem dX9_fame_10 : decode cX9_fame 10 = .ok (.aload_n 1, 1) := by decide +kernel
theorem dX9_fame_11 : decode cX9_fame 11 = .ok (.bipush 14, 2) := by decide +kernel
theorem dX9_fame_13 : decode cX9_fame 13 = .ok (.aload_n 0, 1) := by decide +kernel
theorem dX9_fame_14 : decode cX9_fame 14 = .ok (.aload_n 1, 1) := by decide +kernel
theorem dX9_fame_15 : decode cX9_fame 15 = .ok (.aload_n 1, 1) := by decide +kernel
theorem dX9_fame_16 : decode cX9_fame 16 = .ok (.iconst 0, 1) := by decide +kernel
theorem dX9_fame_17 : decode cX9_fame 17 = .ok (.iload_n 2, 1) := by decide +kernel
theorem dX9_fame_18 : decode cX9_fame 18 = .ok (.iadd, 1) := by decide +kernel
theorem dX9_fame_19 : decode cX9_fame 19 = .ok (.iaload, 1) := by decide +kernel
theorem dX9_fame_20 : decode cX9_fame 20 = .ok (.invokevirtual 135, 3) := by decide +kernel
theorem dX9_fame_23 : decode cX9_fame 23 = .ok (.invokevirtual 139, 3) := by decide +kernel
theorem dX9_fame_26 : decode cX9_fame 26 = .ok (.goto 9, 3) := by decide +kernel
theorem dX9_fame_29 : decode cX9_fame 29 = .ok (.aload_n 1, 1) := by decide +kernel
theorem dX9_fame_30 : decode cX9_fame 30 = .ok (.bipush 14, 2) := by decide +kernel
theorem dX9_fame_32 : decode cX9_fame 32 = .ok (.iload_n 2, 1) := by decide +kernel
theorem dX9_fame_33 : decode cX9_fame 33 = .ok (.iadd, 1) := by decide +kernel
theorem dX9_fame_34 : decode cX9_fame 34 = .ok (.iaload, 1) := by decide +kernel
theorem dX9_fame_35 : decode cX9_fame 35 = .ok (.ireturn, 1) := by decide +kernel
theorem dX9_tax_0 : decode cX9_tax 0 = .ok (.aload_n 1, 1) := by decide +kernel
theorem dX9_tax_1 : decode cX9_tax 1 = .ok (.iconst 4, 1) := by decide +kernel
theorem dX9_tax_2 : decode cX9_tax 2 = .ok (.invokestatic 131, 3) := by decide +kernel
theorem dX9_tax_5 : decode cX9_tax 5 = .ok (.ifCond .eq 16, 3) := by decide +kernel
theorem dX9_tax_8 : decode cX9_tax 8 = .ok (.aload_n 0, 1) := by decide +kernel
theorem dX9_tax_9 : decode cX9_tax 9 = .ok (.aload_n 1, 1) := by decide +kernel
theorem dX9_tax_10 : decode cX9_tax 10 = .ok (.aload_n 1, 1) := by decide +kernel
theorem dX9_tax_11 : decode cX9_tax 11 = .ok (.iconst 0, 1) := by decide +kernel
theorem dX9_tax_12 : decode cX9_tax 12 = .ok (.iload_n 2, 1) := by decide +kernel
theorem dX9_tax_13 : decode cX9_tax 13 = .ok (.iadd, 1) := by decide +kernel
theorem dX9_tax_14 : decode cX9_tax 14 = .ok (.iaload, 1) := by decide +kernel
theorem dX9_tax_15 : decode cX9_tax 15 = .ok (.invokevirtual 135, 3) := by decide +kernel
theorem dX9_tax_18 : decode cX9_tax 18 = .ok (.goto 6, 3) := by decide +kernel
theorem dX9_tax_21 : decode cX9_tax 21 = .ok (.iconst 1, 1) := by decide +kernel
theorem dX9_tax_22 : decode cX9_tax 22 = .ok (.iload_n 2, 1) := by decide +kernel
theorem dX9_tax_23 : decode cX9_tax 23 = .ok (.ishl, 1) := by decide +kernel
theorem dX9_tax_24 : decode cX9_tax 24 = .ok (.istore_n 3, 1) := by decide +kernel
theorem dX9_tax_25 : decode cX9_tax 25 = .ok (.aload_n 0, 1) := by decide +kernel
theorem dX9_tax_26 : decode cX9_tax 26 = .ok (.aload_n 1, 1) := by decide +kernel
theorem dX9_tax_27 : decode cX9_tax 27 = .ok (.bipush 7, 2) := by decide +kernel
theorem dX9_tax_29 : decode cX9_tax 29 = .ok (.iload_n 3, 1) := by decide +kernel
theorem dX9_tax_30 : decode cX9_tax 30 = .ok (.invokevirtual 139, 3) := by decide +kernel
theorem dX9_tax_33 : decode cX9_tax 33 = .ok (.iload_n 3, 1) := by decide +kernel
theorem dX9_tax_34 : decode cX9_tax 34 = .ok (.invokestatic 143, 3) := by decide +kernel
theorem dX9_tax_37 : decode cX9_tax 37 = .ok (.idiv, 1) := by decide +kernel
theorem dX9_tax_38 : decode cX9_tax 38 = .ok (.bipush 10, 2) := by decide +kernel
theorem dX9_tax_40 : decode cX9_tax 40 = .ok (.idiv, 1) := by decide +kernel
theorem dX9_tax_41 : decode cX9_tax 41 = .ok (.ireturn, 1) := by decide +kernel
theorem dX9_leadOf_0 : decode cX9_leadOf 0 = .ok (.iconst 0, 1) := by decide +kernel
theorem dX9_leadOf_1 : decode cX9_leadOf 1 = .ok (.istore_n 3, 1) := by decide +kernel
theorem dX9_leadOf_2 : decode cX9_leadOf 2 = .ok (.iconst 0, 1) := by decide +kernel
theorem dX9_leadOf_3 : decode cX9_leadOf 3 = .ok (.istore 4, 2) := by decide +kernel
theorem dX9_leadOf_5 : decode cX9_leadOf 5 = .ok (.iload 4, 2) := by decide +kernel
theorem dX9_leadOf_7 : decode cX9_leadOf 7 = .ok (.aload_n 0, 1) := by decide +kernel
theorem dX9_leadOf_8 : decode cX9_leadOf 8 = .ok (.getfield 13, 3) := by decide +kernel
theorem dX9_leadOf_11 : decode cX9_leadOf 11 = .ok (.iconst 1, 1) := by decide +kernel
theorem dX9_leadOf_12 : decode cX9_leadOf 12 = .ok (.iaload, 1) := by decide +kernel
theorem dX9_leadOf_13 : decode cX9_leadOf 13 = .ok (.if_icmp .ge 45, 3) := by decide +kernel
theorem dX9_leadOf_16 : decode cX9_leadOf 16 = .ok (.iload_n 3, 1) := by decide +kernel
theorem dX9_leadOf_17 : decode cX9_leadOf 17 = .ok (.iload_n 1, 1) := by decide +kernel
theorem dX9_leadOf_18 : decode cX9_leadOf 18 = .ok (.iload 4, 2) := by decide +kernel
theorem dX9_leadOf_20 : decode cX9_leadOf 20 = .ok (.ishr, 1) := by decide +kernel
theorem dX9_leadOf_21 : decode cX9_leadOf 21 = .ok (.iconst 1, 1) := by decide +kernel
theorem dX9_leadOf_22 : decode cX9_leadOf 22 = .ok (.iand, 1) := by decide +kernel
theorem dX9_leadOf_23 : decode cX9_leadOf 23 = .ok (.ifCond .ne 7, 3) := by decide +kernel
theorem dX9_leadOf_26 : decode cX9_leadOf 26 = .ok (.iconst 0, 1) := by decide +kernel
theorem dX9_leadOf_27 : decode cX9_leadOf 27 = .ok (.goto 23, 3) := by decide +kernel
theorem dX9_leadOf_30 : decode cX9_leadOf 30 = .ok (.aload_n 0, 1) := by decide +kernel
theorem dX9_leadOf_31 : decode cX9_leadOf 31 = .ok (.getfield 22, 3) := by decide +kernel
theorem dX9_leadOf_34 : decode cX9_leadOf 34 = .ok (.iload 4, 2) := by decide +kernel
theorem dX9_leadOf_36 : decode cX9_leadOf 36 = .ok (.iaload, 1) := by decide +kernel
theorem dX9_leadOf_37 : decode cX9_leadOf 37 = .ok (.iload_n 2, 1) := by decide +kernel
theorem dX9_leadOf_38 : decode cX9_leadOf 38 = .ok (.ishr, 1) := by decide +kernel
theorem dX9_leadOf_39 : decode cX9_leadOf 39 = .ok (.iconst 1, 1) := by decide +kernel
theorem dX9_leadOf_40 : decode cX9_leadOf 40 = .ok (.iand, 1) := by decide +kernel
theorem dX9_leadOf_41 : decode cX9_leadOf 41 = .ok (.iconst 1, 1) := by decide +kernel
theorem dX9_leadOf_42 : decode cX9_leadOf 42 = .ok (.if_icmp .ne 7, 3) := by decide +kernel
theorem dX9_leadOf_45 : decode cX9_leadOf 45 = .ok (.iconst 1, 1) := by decide +kernel
theorem dX9_leadOf_46 : decode cX9_leadOf 46 = .ok (.goto 4, 3) := by decide +kernel
theorem dX9_leadOf_49 : decode cX9_leadOf 49 = .ok (.iconst (-1), 1) := by decide +kernel
theorem dX9_leadOf_50 : decode cX9_leadOf 50 = .ok (.iadd, 1) := by decide +kernel
theorem dX9_leadOf_51 : decode cX9_leadOf 51 = .ok (.istore_n 3, 1) := by decide +kernel
theorem dX9_leadOf_52 : decode cX9_leadOf 52 = .ok (.iinc 4 1, 3) := by decide +kernel
theorem dX9_leadOf_55 : decode cX9_leadOf 55 = .ok (.goto (-50), 3) := by decide +kernel
theorem dX9_leadOf_58 : decode cX9_leadOf 58 = .ok (.iload_n 3, 1) := by decide +kernel
theorem dX9_leadOf_59 : decode cX9_leadOf 59 = .ok (.ireturn, 1) := by decide +kernel
theorem dX9_voices_0 : decode cX9_voices 0 = .ok (.iconst 0, 1) := by decide +kernel
theorem dX9_voices_1 : decode cX9_voices 1 = .ok (.istore 5, 2) := by decide +kernel
theorem dX9_voices_3 : decode cX9_voices 3 = .ok (.aload_n 1, 1) := by decide +kernel
theorem dX9_voices_4 : decode cX9_voices 4 = .ok (.iconst 2, 1) := by decide +kernel
theorem dX9_voices_5 : decode cX9_voices 5 = .ok (.invokestatic 131, 3) := by decide +kernel
theorem dX9_voices_8 : decode cX9_voices 8 = .ok (.ifCond .eq 56, 3) := by decide +kernel
theorem dX9_voices_11 : decode cX9_voices 11 = .ok (.iconst 0, 1) := by decide +kernel
theorem dX9_voices_12 : decode cX9_voices 12 = .ok (.istore 6, 2) := by decide +kernel
theorem dX9_voices_14 : decode cX9_voices 14 = .ok (.iload 6, 2) := by decide +kernel
theorem dX9_voices_16 : decode cX9_voices 16 = .ok (.aload_n 0, 1) := by decide +kernel
theorem dX9_voices_17 : decode cX9_voices 17 = .ok (.getfield 13, 3) := by decide +kernel
theorem dX9_voices_20 : decode cX9_voices 20 = .ok (.iconst 0, 1) := by decide +kernel
theorem dX9_voices_21 : decode cX9_voices 21 = .ok (.iaload, 1) := by decide +kernel
theorem dX9_voices_22 : decode cX9_voices 22 = .ok (.if_icmp .ge 39, 3) := by decide +kernel
theorem dX9_voices_25 : decode cX9_voices 25 = .ok (.iload 5, 2) := by decide +kernel
theorem dX9_voices_27 : decode cX9_voices 27 = .ok (.aload_n 0, 1) := by decide +kernel
theorem dX9_voices_28 : decode cX9_voices 28 = .ok (.aload_n 0, 1) := by decide +kernel
theorem dX9_voices_29 : decode cX9_voices 29 = .ok (.aload_n 1, 1) := by decide +kernel
theorem dX9_voices_30 : decode cX9_voices 30 = .ok (.iload 6, 2) := by decide +kernel
theorem dX9_voices_32 : decode cX9_voices 32 = .ok (.invokevirtual 135, 3) := by decide +kernel
theorem dX9_voices_35 : decode cX9_voices 35 = .ok (.iload_n 3, 1) := by decide +kernel
theorem dX9_voices_36 : decode cX9_voices 36 = .ok (.iand, 1) := by decide +kernel
theorem dX9_voices_37 : decode cX9_voices 37 = .ok (.iload_n 2, 1) := by decide +kernel
theorem dX9_voices_38 : decode cX9_voices 38 = .ok (.invokevirtual 146, 3) := by decide +kernel
theorem dX9_voices_41 : decode cX9_voices 41 = .ok (.iload 4, 2) := by decide +kernel
theorem dX9_voices_43 : decode cX9_voices 43 = .ok (.imul, 1) := by decide +kernel
theorem dX9_voices_44 : decode cX9_voices 44 = .ok (.ifCond .le 7, 3) := by decide +kernel
theorem dX9_voices_47 : decode cX9_voices 47 = .ok (.iconst 1, 1) := by decide +kernel
theorem dX9_voices_48 : decode cX9_voices 48 = .ok (.goto 4, 3) := by decide +kernel
theorem dX9_voices_51 : decode cX9_voices 51 = .ok (.iconst 0, 1) := by decide +kernel
theorem dX9_voices_52 : decode cX9_voices 52 = .ok (.iadd, 1) := by decide +kernel
theorem dX9_voices_53 : decode cX9_voices 53 = .ok (.istore 5, 2) := by decide +kernel
theorem dX9_voices_55 : decode cX9_voices 55 = .ok (.iinc 6 1, 3) := by decide +kernel
theorem dX9_voices_58 : decode cX9_voices 58 = .ok (.goto (-44), 3) := by decide +kernel
theorem dX9_voices_61 : decode cX9_voices 61 = .ok (.iload 5, 2) := by decide +kernel
theorem dX9_voices_63 : decode cX9_voices 63 = .ok (.ireturn, 1) := by decide +kernel
theorem dX9_voices_64 : decode cX9_voices 64 = .ok (.iconst 0, 1) := by decide +kernel
theorem dX9_voices_65 : decode cX9_voices 65 = .ok (.istore 6, 2) := by decide +kernel
theorem dX9_voices_67 : decode cX9_voices 67 = .ok (.iload 6, 2) := by decide +kernel
theorem dX9_voices_69 : decode cX9_voices 69 = .ok (.aload_n 0, 1) := by decide +kernel
theorem dX9_voices_70 : decode cX9_voices 70 = .ok (.getfield 13, 3) := by decide +kernel
theorem dX9_voices_73 : decode cX9_voices 73 = .ok (.iconst 1, 1) := by decide +kernel
theorem dX9_voices_74 : decode cX9_voices 74 = .ok (.iaload, 1) := by decide +kernel
theorem dX9_voices_75 : decode cX9_voices 75 = .ok (.if_icmp .ge 35, 3) := by decide +kernel
theorem dX9_voices_78 : decode cX9_voices 78 = .ok (.iload 5, 2) := by decide +kernel
theorem dX9_voices_80 : decode cX9_voices 80 = .ok (.aload_n 0, 1) := by decide +kernel
theorem dX9_voices_81 : decode cX9_voices 81 = .ok (.iload_n 3, 1) := by decide +kernel
theorem dX9_voices_82 : decode cX9_voices 82 = .ok (.iconst 1, 1) := by decide +kernel
theorem dX9_voices_83 : decode cX9_voices 83 = .ok (.iload 6, 2) := by decide +kernel
theorem dX9_voices_85 : decode cX9_voices 85 = .ok (.ishl, 1) := by decide +kernel
theorem dX9_voices_86 : decode cX9_voices 86 = .ok (.iand, 1) := by decide +kernel
theorem dX9_voices_87 : decode cX9_voices 87 = .ok (.iload_n 2, 1) := by decide +kernel
theorem dX9_voices_88 : decode cX9_voices 88 = .ok (.invokevirtual 146, 3) := by decide +kernel
theorem dX9_voices_91 : decode cX9_voices 91 = .ok (.iload 4, 2) := by decide +kernel
theorem dX9_voices_93 : decode cX9_voices 93 = .ok (.if_icmp .ne 7, 3) := by decide +kernel
theorem dX9_voices_96 : decode cX9_voices 96 = .ok (.iconst 1, 1) := by decide +kernel
theorem dX9_voices_97 : decode cX9_voices 97 = .ok (.goto 4, 3) := by decide +kernel
theorem dX9_voices_100 : decode cX9_voices 100 = .ok (.iconst 0, 1) := by decide +kernel
theorem dX9_voices_101 : decode cX9_voices 101 = .ok (.iadd, 1) := by decide +kernel
theorem dX9_voices_102 : decode cX9_voices 102 = .ok (.istore 5, 2) := by decide +kernel
theorem dX9_voices_104 : decode cX9_voices 104 = .ok (.iinc 6 1, 3) := by decide +kernel
theorem dX9_voices_107 : decode cX9_voices 107 = .ok (.goto (-40), 3) := by decide +kernel
theorem dX9_voices_110 : decode cX9_voices 110 = .ok (.iload 5, 2) := by decide +kernel
theorem dX9_voices_112 : decode cX9_voices 112 = .ok (.ireturn, 1) := by decide +kernel
theorem dX9_passes_0 : decode cX9_passes 0 = .ok (.aload_n 0, 1) := by decide +kernel
theorem dX9_passes_1 : decode cX9_passes 1 = .ok (.aload_n 1, 1) := by decide +kernel
theorem dX9_passes_2 : decode cX9_passes 2 = .ok (.iload_n 2, 1) := by decide +kernel
theorem dX9_passes_3 : decode cX9_passes 3 = .ok (.iload_n 3, 1) := by decide +kernel
theorem dX9_passes_4 : decode cX9_passes 4 = .ok (.iconst 1, 1) := by decide +kernel
theorem dX9_passes_5 : decode cX9_passes 5 = .ok (.invokevirtual 149, 3) := by decide +kernel
theorem dX9_passes_8 : decode cX9_passes 8 = .ok (.aload_n 0, 1) := by decide +kernel
theorem dX9_passes_9 : decode cX9_passes 9 = .ok (.aload_n 1, 1) := by decide +kernel
theorem dX9_passes_10 : decode cX9_passes 10 = .ok (.iload_n 2, 1) := by decide +kernel
theorem dX9_passes_11 : decode cX9_passes 11 = .ok (.iload_n 3, 1) := by decide +kernel
theorem dX9_passes_12 : decode cX9_passes 12 = .ok (.iconst (-1), 1) := by decide +kernel
theorem dX9_passes_13 : decode cX9_passes 13 = .ok (.invokevirtual 149, 3) := by decide +kernel
theorem dX9_passes_16 : decode cX9_passes 16 = .ok (.if_icmp .le 7, 3) := by decide +kernel
theorem dX9_passes_19 : decode cX9_passes 19 = .ok (.iconst 1, 1) := by decide +kernel
theorem dX9_passes_20 : decode cX9_passes 20 = .ok (.goto 4, 3) := by decide +kernel
theorem dX9_passes_23 : decode cX9_passes 23 = .ok (.iconst 0, 1) := by decide +kernel
theorem dX9_passes_24 : decode cX9_passes 24 = .ok (.ireturn, 1) := by decide +kernel
theorem dX9_everybody_0 : decode cX9_everybody 0 = .ok (.iconst 1, 1) := by decide +kernel
theorem dX9_everybody_1 : decode cX9_everybody 1 = .ok (.aload_n 0, 1) := by decide +kernel
theorem dX9_everybody_2 : decode cX9_everybody 2 = .ok (.getfield 13, 3) := by decide +kernel
theorem dX9_everybody_5 : decode cX9_everybody 5 = .ok (.iconst 1, 1) := by decide +kernel
theorem dX9_everybody_6 : decode cX9_everybody 6 = .ok (.iaload, 1) := by decide +kernel
theorem dX9_everybody_7 : decode cX9_everybody 7 = .ok (.ishl, 1) := by decide +kernel
theorem dX9_everybody_8 : decode cX9_everybody 8 = .ok (.iconst 1, 1) := by decide +kernel
theorem dX9_everybody_9 : decode cX9_everybody 9 = .ok (.isub, 1) := by decide +kernel
theorem dX9_everybody_10 : decode cX9_everybody 10 = .ok (.ireturn, 1) := by decide +kernel
theorem dX9_person_0 : decode cX9_person 0 = .ok (.aload_n 0, 1) := by decide +kernel
theorem dX9_person_1 : decode cX9_person 1 = .ok (.iconst 0, 1) := by decide +kernel
theorem dX9_person_2 : decode cX9_person 2 = .ok (.putfield 62, 3) := by decide +kernel
theorem dX9_person_5 : decode cX9_person 5 = .ok (.aload_n 0, 1) := by decide +kernel
theorem dX9_person_6 : decode cX9_person 6 = .ok (.iload_n 1, 1) := by decide +kernel
theorem dX9_person_7 : decode cX9_person 7 = .ok (.invokevirtual 153, 3) := by decide +kernel
theorem dX9_person_10 : decode cX9_person 10 = .ok (.ifCond .eq 13, 3) := by decide +kernel
theorem dX9_person_13 : decode cX9_person 13 = .ok (.iload_n 2, 1) := by decide +kernel
theorem dX9_person_14 : decode cX9_person 14 = .ok (.iconst 0, 1) := by decide +kernel
theorem dX9_person_15 : decode cX9_person 15 = .ok (.bipush 7, 2) := by decide +kernel
theorem dX9_person_17 : decode cX9_person 17 = .ok (.invokestatic 66, 3) := by decide +kernel
theorem dX9_person_20 : decode cX9_person 20 = .ok (.ifCond .ne 5, 3) := by decide +kernel
theorem dX9_person_23 : decode cX9_person 23 = .ok (.iconst (-1), 1) := by decide +kernel
theorem dX9_person_24 : decode cX9_person 24 = .ok (.ireturn, 1) := by decide +kernel
theorem dX9_person_25 : decode cX9_person 25 = .ok (.iload_n 2, 1) := by decide +kernel
theorem dX9_person_26 : decode cX9_person 26 = .ok (.iconst 4, 1) := by decide +kernel
theorem dX9_person_27 : decode cX9_person 27 = .ok (.if_icmp .ge 61, 3) := by decide +kernel
theorem dX9_person_30 : decode cX9_person 30 = .ok (.iload_n 2, 1) := by decide +kernel
theorem dX9_person_31 : decode cX9_person 31 = .ok (.ifCond .ne 14, 3) := by decide +kernel
theorem dX9_person_34 : decode cX9_person 34 = .ok (.aload_n 0, 1) := by decide +kernel
theorem dX9_person_35 : decode cX9_person 35 = .ok (.getfield 28, 3) := by decide +kernel
theorem dX9_person_38 : decode cX9_person 38 = .ok (.iconst 0, 1) := by decide +kernel
theorem dX9_person_39 : decode cX9_person 39 = .ok (.iload_n 1, 1) := by decide +kernel
theorem dX9_person_40 : decode cX9_person 40 = .ok (.iadd, 1) := by decide +kernel
theorem dX9_person_41 : decode cX9_person 41 = .ok (.iaload, 1) := by decide +kernel
theorem dX9_person_42 : decode cX9_person 42 = .ok (.goto 45, 3) := by decide +kernel
theorem dX9_person_45 : decode cX9_person 45 = .ok (.iload_n 2, 1) := by decide +kernel
theorem dX9_person_46 : decode cX9_person 46 = .ok (.iconst 1, 1) := by decide +kernel
theorem dX9_person_47 : decode cX9_person 47 = .ok (.if_icmp .ne 15, 3) := by decide +kernel
theorem dX9_person_50 : decode cX9_person 50 = .ok (.aload_n 0, 1) := by decide +kernel
theorem dX9_person_51 : decode cX9_person 51 = .ok (.getfield 28, 3) := by decide +kernel
theorem dX9_person_54 : decode cX9_person 54 = .ok (.bipush 7, 2) := by decide +kernel
theorem dX9_person_56 : decode cX9_person 56 = .ok (.iload_n 1, 1) := by decide +kernel
theorem dX9_person_57 : decode cX9_person 57 = .ok (.iadd, 1) := by decide +kernel
theorem dX9_person_58 : decode cX9_person 58 = .ok (.iaload, 1) := by decide +kernel
theorem dX9_person_59 : decode cX9_person 59 = .ok (.goto 28, 3) := by decide +kernel
theorem dX9_person_62 : decode cX9_person 62 = .ok (.iload_n 2, 1) := by decide +kernel
theorem dX9_person_63 : decode cX9_person 63 = .ok (.iconst 2, 1) := by decide +kernel
theorem dX9_person_64 : decode cX9_person 64 = .ok (.if_icmp .ne 12, 3) := by decide +kernel
theorem dX9_person_67 : decode cX9_person 67 = .ok (.aload_n 0, 1) := by decide +kernel
theorem dX9_person_68 : decode cX9_person 68 = .ok (.getfield 22, 3) := by decide +kernel
theorem dX9_person_71 : decode cX9_person 71 = .ok (.iload_n 1, 1) := by decide +kernel
theorem dX9_person_72 : decode cX9_person 72 = .ok (.iaload, 1) := by decide +kernel
theorem dX9_person_73 : decode cX9_person 73 = .ok (.goto 14, 3) := by decide +kernel
theorem dX9_person_76 : decode cX9_person 76 = .ok (.aload_n 0, 1) := by decide +kernel
theorem dX9_person_77 : decode cX9_person 77 = .ok (.getfield 28, 3) := by decide +kernel
theorem dX9_person_80 : decode cX9_person 80 = .ok (.bipush 21, 2) := by decide +kernel
theorem dX9_person_82 : decode cX9_person 82 = .ok (.iaload, 1) := by decide +kernel
theorem dX9_person_83 : decode cX9_person 83 = .ok (.iload_n 1, 1) := by decide +kernel
theorem dX9_person_84 : decode cX9_person 84 = .ok (.ishr, 1) := by decide +kernel
theorem dX9_person_85 : decode cX9_person 85 = .ok (.iconst 1, 1) := by decide +kernel
theorem dX9_person_86 : decode cX9_person 86 = .ok (.iand, 1) := by decide +kernel
theorem dX9_person_87 : decode cX9_person 87 = .ok (.ireturn, 1) := by decide +kernel
theorem dX9_person_88 : decode cX9_person 88 = .ok (.iload_n 2, 1) := by decide +kernel
theorem dX9_person_89 : decode cX9_person 89 = .ok (.iconst 4, 1) := by decide +kernel
theorem dX9_person_90 : decode cX9_person 90 = .ok (.if_icmp .ne 23, 3) := by decide +kernel
theorem dX9_person_93 : decode cX9_person 93 = .ok (.aload_n 0, 1) := by decide +kernel
theorem dX9_person_94 : decode cX9_person 94 = .ok (.aload_n 0, 1) := by decide +kernel
theorem dX9_person_95 : decode cX9_person 95 = .ok (.getfield 28, 3) := by decide +kernel
theorem dX9_person_98 : decode cX9_person 98 = .ok (.iload_n 1, 1) := by decide +kernel
theorem dX9_person_99 : decode cX9_person 99 = .ok (.invokevirtual 156, 3) := by decide +kernel
theorem dX9_person_102 : decode cX9_person 102 = .ok (.ifCond .eq 7, 3) := by decide +kernel
theorem dX9_person_105 : decode cX9_person 105 = .ok (.iconst 1, 1) := by decide +kernel
theorem dX9_person_106 : decode cX9_person 106 = .ok (.goto 51, 3) := by decide +kernel
theorem dX9_person_109 : decode cX9_person 109 = .ok (.iconst 0, 1) := by decide +kernel
theorem dX9_person_110 : decode cX9_person 110 = .ok (.goto 47, 3) := by decide +kernel
theorem dX9_person_113 : decode cX9_person 113 = .ok (.iload_n 2, 1) := by decide +kernel
theorem dX9_person_114 : decode cX9_person 114 = .ok (.iconst 5, 1) := by decide +kernel
theorem dX9_person_115 : decode cX9_person 115 = .ok (.if_icmp .ne 15, 3) := by decide +kernel
theorem dX9_person_118 : decode cX9_person 118 = .ok (.aload_n 0, 1) := by decide +kernel
theorem dX9_person_119 : decode cX9_person 119 = .ok (.getfield 28, 3) := by decide +kernel
theorem dX9_person_122 : decode cX9_person 122 = .ok (.bipush 14, 2) := by decide +kernel
theorem dX9_person_124 : decode cX9_person 124 = .ok (.iload_n 1, 1) := by decide +kernel
theorem dX9_person_125 : decode cX9_person 125 = .ok (.iadd, 1) := by decide +kernel
theorem dX9_person_126 : decode cX9_person 126 = .ok (.iaload, 1) := by decide +kernel
theorem dX9_person_127 : decode cX9_person 127 = .ok (.goto 30, 3) := by decide +kernel
theorem dX9_person_130 : decode cX9_person 130 = .ok (.iload_n 2, 1) := by decide +kernel
theorem dX9_person_131 : decode cX9_person 131 = .ok (.bipush 6, 2) := by decide +kernel
theorem dX9_person_133 : decode cX9_person 133 = .ok (.if_icmp .ne 15, 3) := by decide +kernel
theorem dX9_person_136 : decode cX9_person 136 = .ok (.aload_n 0, 1) := by decide +kernel
theorem dX9_person_137 : decode cX9_person 137 = .ok (.aload_n 0, 1) := by decide +kernel
theorem dX9_person_138 : decode cX9_person 138 = .ok (.getfield 28, 3) := by decide +kernel
theorem dX9_person_141 : decode cX9_person 141 = .ok (.iload_n 1, 1) := by decide +kernel
theorem dX9_person_142 : decode cX9_person 142 = .ok (.invokevirtual 159, 3) := by decide +kernel
theorem dX9_person_145 : decode cX9_person 145 = .ok (.goto 12, 3) := by decide +kernel
theorem dX9_person_148 : decode cX9_person 148 = .ok (.aload_n 0, 1) := by decide +kernel
theorem dX9_person_149 : decode cX9_person 149 = .ok (.aload_n 0, 1) := by decide +kernel
theorem dX9_person_150 : decode cX9_person 150 = .ok (.getfield 28, 3) := by decide +kernel
theorem dX9_person_153 : decode cX9_person 153 = .ok (.iload_n 1, 1) := by decide +kernel
theorem dX9_person_154 : decode cX9_person 154 = .ok (.invokevirtual 162, 3) := by decide +kernel
theorem dX9_person_157 : decode cX9_person 157 = .ok (.ireturn, 1) := by decide +kernel
theorem dX9_quarrels_0 : decode cX9_quarrels 0 = .ok (.aload_n 0, 1) := by decide +kernel
theorem dX9_quarrels_1 : decode cX9_quarrels 1 = .ok (.iconst 0, 1) := by decide +kernel
theorem dX9_quarrels_2 : decode cX9_quarrels 2 = .ok (.putfield 62, 3) := by decide +kernel
theorem dX9_quarrels_5 : decode cX9_quarrels 5 = .ok (.aload_n 0, 1) := by decide +kernel
theorem dX9_quarrels_6 : decode cX9_quarrels 6 = .ok (.iload_n 1, 1) := by decide +kernel
theorem dX9_quarrels_7 : decode cX9_quarrels 7 = .ok (.invokevirtual 153, 3) := by decide +kernel
theorem dX9_quarrels_10 : decode cX9_quarrels 10 = .ok (.ifCond .eq 12, 3) := by decide +kernel
theorem dX9_quarrels_13 : decode cX9_quarrels 13 = .ok (.aload_n 0, 1) := by decide +kernel
theorem dX9_quarrels_14 : decode cX9_quarrels 14 = .ok (.getfield 25, 3) := by decide +kernel
theorem dX9_quarrels_17 : decode cX9_quarrels 17 = .ok (.iload_n 1, 1) := by decide +kernel
theorem dX9_quarrels_18 : decode cX9_quarrels 18 = .ok (.iaload, 1) := by decide +kernel
theorem dX9_quarrels_19 : decode cX9_quarrels 19 = .ok (.goto 4, 3) := by decide +kernel
theorem dX9_quarrels_22 : decode cX9_quarrels 22 = .ok (.iconst (-1), 1) := by decide +kernel
theorem dX9_quarrels_23 : decode cX9_quarrels 23 = .ok (.ireturn, 1) := by decide +kernel
theorem dX9_gcd_0 : decode cX9_gcd 0 = .ok (.iload_n 0, 1) := by decide +kernel
theorem dX9_gcd_1 : decode cX9_gcd 1 = .ok (.istore_n 2, 1) := by decide +kernel
theorem dX9_gcd_2 : decode cX9_gcd 2 = .ok (.iload_n 1, 1) := by decide +kernel
theorem dX9_gcd_3 : decode cX9_gcd 3 = .ok (.istore_n 3, 1) := by decide +kernel
theorem dX9_gcd_4 : decode cX9_gcd 4 = .ok (.iload_n 3, 1) := by decide +kernel
theorem dX9_gcd_5 : decode cX9_gcd 5 = .ok (.ifCond .eq 16, 3) := by decide +kernel
theorem dX9_gcd_8 : decode cX9_gcd 8 = .ok (.iload_n 2, 1) := by decide +kernel
theorem dX9_gcd_9 : decode cX9_gcd 9 = .ok (.iload_n 3, 1) := by decide +kernel
theorem dX9_gcd_10 : decode cX9_gcd 10 = .ok (.irem, 1) := by decide +kernel
theorem dX9_gcd_11 : decode cX9_gcd 11 = .ok (.istore 4, 2) := by decide +kernel
theorem dX9_gcd_13 : decode cX9_gcd 13 = .ok (.iload_n 3, 1) := by decide +kernel
theorem dX9_gcd_14 : decode cX9_gcd 14 = .ok (.istore_n 2, 1) := by decide +kernel
theorem dX9_gcd_15 : decode cX9_gcd 15 = .ok (.iload 4, 2) := by decide +kernel
theorem dX9_gcd_17 : decode cX9_gcd 17 = .ok (.istore_n 3, 1) := by decide +kernel
theorem dX9_gcd_18 : decode cX9_gcd 18 = .ok (.goto (-14), 3) := by decide +kernel
theorem dX9_gcd_21 : decode cX9_gcd 21 = .ok (.iload_n 2, 1) := by decide +kernel
theorem dX9_gcd_22 : decode cX9_gcd 22 = .ok (.ireturn, 1) := by decide +kernel
theorem dX9_part_0 : decode cX9_part 0 = .ok (.iload_n 0, 1) := by decide +kernel
theorem dX9_part_1 : decode cX9_part 1 = .ok (.iload_n 1, 1) := by decide +kernel
theorem dX9_part_2 : decode cX9_part 2 = .ok (.invokestatic 165, 3) := by decide +kernel
theorem dX9_part_5 : decode cX9_part 5 = .ok (.istore_n 3, 1) := by decide +kernel
theorem dX9_part_6 : decode cX9_part 6 = .ok (.iload_n 2, 1) := by decide +kernel
theorem dX9_part_7 : decode cX9_part 7 = .ok (.ifCond .ne 9, 3) := by decide +kernel
theorem dX9_part_10 : decode cX9_part 10 = .ok (.iload_n 0, 1) := by decide +kernel
theorem dX9_part_11 : decode cX9_part 11 = .ok (.iload_n 3, 1) := by decide +kernel
theorem dX9_part_12 : decode cX9_part 12 = .ok (.idiv, 1) := by decide +kernel
theorem dX9_part_13 : decode cX9_part 13 = .ok (.goto 6, 3) := by decide +kernel
theorem dX9_part_16 : decode cX9_part 16 = .ok (.iload_n 1, 1) := by decide +kernel
theorem dX9_part_17 : decode cX9_part 17 = .ok (.iload_n 3, 1) := by decide +kernel
theorem dX9_part_18 : decode cX9_part 18 = .ok (.idiv, 1) := by decide +kernel
theorem dX9_part_19 : decode cX9_part 19 = .ok (.ireturn, 1) := by decide +kernel
theorem dX9_name_0 : decode cX9_name 0 = .ok (.aload_n 0, 1) := by decide +kernel
theorem dX9_name_1 : decode cX9_name 1 = .ok (.iconst 0, 1) := by decide +kernel
theorem dX9_name_2 : decode cX9_name 2 = .ok (.putfield 62, 3) := by decide +kernel
theorem dX9_name_5 : decode cX9_name 5 = .ok (.aload_n 0, 1) := by decide +kernel
theorem dX9_name_6 : decode cX9_name 6 = .ok (.iload_n 1, 1) := by decide +kernel
theorem dX9_name_7 : decode cX9_name 7 = .ok (.invokevirtual 168, 3) := by decide +kernel
theorem dX9_name_10 : decode cX9_name 10 = .ok (.ifCond .eq 12, 3) := by decide +kernel
theorem dX9_name_13 : decode cX9_name 13 = .ok (.iload_n 2, 1) := by decide +kernel
theorem dX9_name_14 : decode cX9_name 14 = .ok (.iconst 0, 1) := by decide +kernel
theorem dX9_name_15 : decode cX9_name 15 = .ok (.iconst 2, 1) := by decide +kernel
theorem dX9_name_16 : decode cX9_name 16 = .ok (.invokestatic 66, 3) := by decide +kernel
theorem dX9_name_19 : decode cX9_name 19 = .ok (.ifCond .ne 5, 3) := by decide +kernel
theorem dX9_name_22 : decode cX9_name 22 = .ok (.iconst (-1), 1) := by decide +kernel
theorem dX9_name_23 : decode cX9_name 23 = .ok (.ireturn, 1) := by decide +kernel
theorem dX9_name_24 : decode cX9_name 24 = .ok (.aload_n 0, 1) := by decide +kernel
theorem dX9_name_25 : decode cX9_name 25 = .ok (.aload_n 0, 1) := by decide +kernel
theorem dX9_name_26 : decode cX9_name 26 = .ok (.getfield 28, 3) := by decide +kernel
theorem dX9_name_29 : decode cX9_name 29 = .ok (.iload_n 1, 1) := by decide +kernel
theorem dX9_name_30 : decode cX9_name 30 = .ok (.invokevirtual 135, 3) := by decide +kernel
theorem dX9_name_33 : decode cX9_name 33 = .ok (.istore_n 3, 1) := by decide +kernel
theorem dX9_name_34 : decode cX9_name 34 = .ok (.iload_n 2, 1) := by decide +kernel
theorem dX9_name_35 : decode cX9_name 35 = .ok (.ifCond .eq 7, 3) := by decide +kernel
theorem dX9_name_38 : decode cX9_name 38 = .ok (.iload_n 3, 1) := by decide +kernel
theorem dX9_name_39 : decode cX9_name 39 = .ok (.ifCond .ne 15, 3) := by decide +kernel
theorem dX9_name_42 : decode cX9_name 42 = .ok (.iload_n 2, 1) := by decide +kernel
theorem dX9_name_43 : decode cX9_name 43 = .ok (.ifCond .ne 7, 3) := by decide +kernel
theorem dX9_name_46 : decode cX9_name 46 = .ok (.iload_n 3, 1) := by decide +kernel
theorem dX9_name_47 : decode cX9_name 47 = .ok (.goto 6, 3) := by decide +kernel
theorem dX9_name_50 : decode cX9_name 50 = .ok (.iload_n 2, 1) := by decide +kernel
theorem dX9_name_51 : decode cX9_name 51 = .ok (.iconst 1, 1) := by decide +kernel
theorem dX9_name_52 : decode cX9_name 52 = .ok (.isub, 1) := by decide +kernel
theorem dX9_name_53 : decode cX9_name 53 = .ok (.ireturn, 1) := by decide +kernel
theorem dX9_name_54 : decode cX9_name 54 = .ok (.aload_n 0, 1) := by decide +kernel
theorem dX9_name_55 : decode cX9_name 55 = .ok (.aload_n 0, 1) := by decide +kernel
theorem dX9_name_56 : decode cX9_name 56 = .ok (.getfield 28, 3) := by decide +kernel
theorem dX9_name_59 : decode cX9_name 59 = .ok (.bipush 7, 2) := by decide +kernel
theorem dX9_name_61 : decode cX9_name 61 = .ok (.iload_n 3, 1) := by decide +kernel
theorem dX9_name_62 : decode cX9_name 62 = .ok (.invokevirtual 139, 3) := by decide +kernel
theorem dX9_name_65 : decode cX9_name 65 = .ok (.iload_n 3, 1) := by decide +kernel
theorem dX9_name_66 : decode cX9_name 66 = .ok (.invokestatic 143, 3) := by decide +kernel
theorem dX9_name_69 : decode cX9_name 69 = .ok (.iload_n 2, 1) := by decide +kernel
theorem dX9_name_70 : decode cX9_name 70 = .ok (.iconst 1, 1) := by decide +kernel
theorem dX9_name_71 : decode cX9_name 71 = .ok (.isub, 1) := by decide +kernel
theorem dX9_name_72 : decode cX9_name 72 = .ok (.invokestatic 171, 3) := by decide +kernel
theorem dX9_name_75 : decode cX9_name 75 = .ok (.ireturn, 1) := by decide +kernel
theorem dX9_swayOf_0 : decode cX9_swayOf 0 = .ok (.iconst 0, 1) := by decide +kernel
theorem dX9_swayOf_1 : decode cX9_swayOf 1 = .ok (.istore_n 2, 1) := by decide +kernel
theorem dX9_swayOf_2 : decode cX9_swayOf 2 = .ok (.iconst 0, 1) := by decide +kernel
theorem dX9_swayOf_3 : decode cX9_swayOf 3 = .ok (.istore_n 3, 1) := by decide +kernel
theorem dX9_swayOf_4 : decode cX9_swayOf 4 = .ok (.iload_n 3, 1) := by decide +kernel
theorem dX9_swayOf_5 : decode cX9_swayOf 5 = .ok (.aload_n 0, 1) := by decide +kernel
theorem dX9_swayOf_6 : decode cX9_swayOf 6 = .ok (.getfield 13, 3) := by decide +kernel
theorem dX9_swayOf_9 : decode cX9_swayOf 9 = .ok (.iconst 0, 1) := by decide +kernel
theorem dX9_swayOf_10 : decode cX9_swayOf 10 = .ok (.iaload, 1) := by decide +kernel
theorem dX9_swayOf_11 : decode cX9_swayOf 11 = .ok (.if_icmp .ge 60, 3) := by decide +kernel
theorem dX9_swayOf_14 : decode cX9_swayOf 14 = .ok (.iload_n 2, 1) := by decide +kernel
theorem dX9_swayOf_15 : decode cX9_swayOf 15 = .ok (.aload_n 0, 1) := by decide +kernel
theorem dX9_swayOf_16 : decode cX9_swayOf 16 = .ok (.aload_n 0, 1) := by decide +kernel
theorem dX9_swayOf_17 : decode cX9_swayOf 17 = .ok (.getfield 28, 3) := by decide +kernel
theorem dX9_swayOf_20 : decode cX9_swayOf 20 = .ok (.iload_n 1, 1) := by decide +kernel
theorem dX9_swayOf_21 : decode cX9_swayOf 21 = .ok (.aload_n 0, 1) := by decide +kernel
theorem dX9_swayOf_22 : decode cX9_swayOf 22 = .ok (.invokevirtual 175, 3) := by decide +kernel
theorem dX9_swayOf_25 : decode cX9_swayOf 25 = .ok (.aload_n 0, 1) := by decide +kernel
theorem dX9_swayOf_26 : decode cX9_swayOf 26 = .ok (.aload_n 0, 1) := by decide +kernel
theorem dX9_swayOf_27 : decode cX9_swayOf 27 = .ok (.getfield 28, 3) := by decide +kernel
theorem dX9_swayOf_30 : decode cX9_swayOf 30 = .ok (.iload_n 3, 1) := by decide +kernel
theorem dX9_swayOf_31 : decode cX9_swayOf 31 = .ok (.invokevirtual 135, 3) := by decide +kernel
theorem dX9_swayOf_34 : decode cX9_swayOf 34 = .ok (.iconst (-1), 1) := by decide +kernel
theorem dX9_swayOf_35 : decode cX9_swayOf 35 = .ok (.ixor, 1) := by decide +kernel
theorem dX9_swayOf_36 : decode cX9_swayOf 36 = .ok (.iand, 1) := by decide +kernel
theorem dX9_swayOf_37 : decode cX9_swayOf 37 = .ok (.invokevirtual 179, 3) := by decide +kernel
theorem dX9_swayOf_40 : decode cX9_swayOf 40 = .ok (.aload_n 0, 1) := by decide +kernel
theorem dX9_swayOf_41 : decode cX9_swayOf 41 = .ok (.aload_n 0, 1) := by decide +kernel
theorem dX9_swayOf_42 : decode cX9_swayOf 42 = .ok (.getfield 28, 3) := by decide +kernel
theorem dX9_swayOf_45 : decode cX9_swayOf 45 = .ok (.iload_n 1, 1) := by decide +kernel
theorem dX9_swayOf_46 : decode cX9_swayOf 46 = .ok (.aload_n 0, 1) := by decide +kernel
theorem dX9_swayOf_47 : decode cX9_swayOf 47 = .ok (.invokevirtual 175, 3) := by decide +kernel
theorem dX9_swayOf_50 : decode cX9_swayOf 50 = .ok (.invokevirtual 179, 3) := by decide +kernel
theorem dX9_swayOf_53 : decode cX9_swayOf 53 = .ok (.if_icmp .eq 9, 3) := by decide +kernel
theorem dX9_swayOf_56 : decode cX9_swayOf 56 = .ok (.iconst 1, 1) := by decide +kernel
theorem dX9_swayOf_57 : decode cX9_swayOf 57 = .ok (.iload_n 3, 1) := by decide +kernel
theorem dX9_swayOf_58 : decode cX9_swayOf 58 = .ok (.ishl, 1) := by decide +kernel
theorem dX9_swayOf_59 : decode cX9_swayOf 59 = .ok (.goto 4, 3) := by decide +kernel
theorem dX9_swayOf_62 : decode cX9_swayOf 62 = .ok (.iconst 0, 1) := by decide +kernel
theorem dX9_swayOf_63 : decode cX9_swayOf 63 = .ok (.ior, 1) := by decide +kernel
theorem dX9_swayOf_64 : decode cX9_swayOf 64 = .ok (.istore_n 2, 1) := by decide +kernel
theorem dX9_swayOf_65 : decode cX9_swayOf 65 = .ok (.iinc 3 1, 3) := by decide +kernel
theorem dX9_swayOf_68 : decode cX9_swayOf 68 = .ok (.goto (-64), 3) := by decide +kernel
theorem dX9_swayOf_71 : decode cX9_swayOf 71 = .ok (.iload_n 2, 1) := by decide +kernel
theorem dX9_swayOf_72 : decode cX9_swayOf 72 = .ok (.ireturn, 1) := by decide +kernel
theorem dX9_bill_0 : decode cX9_bill 0 = .ok (.aload_n 0, 1) := by decide +kernel
theorem dX9_bill_1 : decode cX9_bill 1 = .ok (.iconst 0, 1) := by decide +kernel
theorem dX9_bill_2 : decode cX9_bill 2 = .ok (.putfield 62, 3) := by decide +kernel
theorem dX9_bill_5 : decode cX9_bill 5 = .ok (.iload_n 1, 1) := by decide +kernel
theorem dX9_bill_6 : decode cX9_bill 6 = .ok (.iconst 0, 1) := by decide +kernel
theorem dX9_bill_7 : decode cX9_bill 7 = .ok (.iconst 4, 1) := by decide +kernel
theorem dX9_bill_8 : decode cX9_bill 8 = .ok (.invokestatic 66, 3) := by decide +kernel
theorem dX9_bill_11 : decode cX9_bill 11 = .ok (.ifCond .eq 12, 3) := by decide +kernel
theorem dX9_bill_14 : decode cX9_bill 14 = .ok (.iload_n 2, 1) := by decide +kernel
theorem dX9_bill_15 : decode cX9_bill 15 = .ok (.iconst 0, 1) := by decide +kernel
theorem dX9_bill_16 : decode cX9_bill 16 = .ok (.iconst 3, 1) := by decide +kernel
theorem dX9_bill_17 : decode cX9_bill 17 = .ok (.invokestatic 66, 3) := by decide +kernel
theorem dX9_bill_20 : decode cX9_bill 20 = .ok (.ifCond .ne 5, 3) := by decide +kernel
theorem dX9_bill_23 : decode cX9_bill 23 = .ok (.iconst (-1), 1) := by decide +kernel
theorem dX9_bill_24 : decode cX9_bill 24 = .ok (.ireturn, 1) := by decide +kernel
theorem dX9_bill_25 : decode cX9_bill 25 = .ok (.iload_n 2, 1) := by decide +kernel
theorem dX9_bill_26 : decode cX9_bill 26 = .ok (.ifCond .ne 20, 3) := by decide +kernel
theorem dX9_bill_29 : decode cX9_bill 29 = .ok (.aload_n 0, 1) := by decide +kernel
theorem dX9_bill_30 : decode cX9_bill 30 = .ok (.aload_n 0, 1) := by decide +kernel
theorem dX9_bill_31 : decode cX9_bill 31 = .ok (.getfield 28, 3) := by decide +kernel
theorem dX9_bill_34 : decode cX9_bill 34 = .ok (.iload_n 1, 1) := by decide +kernel
theorem dX9_bill_35 : decode cX9_bill 35 = .ok (.aload_n 0, 1) := by decide +kernel
theorem dX9_bill_36 : decode cX9_bill 36 = .ok (.invokevirtual 175, 3) := by decide +kernel
theorem dX9_bill_39 : decode cX9_bill 39 = .ok (.iconst 1, 1) := by decide +kernel
theorem dX9_bill_40 : decode cX9_bill 40 = .ok (.invokevirtual 149, 3) := by decide +kernel
theorem dX9_bill_43 : decode cX9_bill 43 = .ok (.goto 59, 3) := by decide +kernel
theorem dX9_bill_46 : decode cX9_bill 46 = .ok (.iload_n 2, 1) := by decide +kernel
theorem dX9_bill_47 : decode cX9_bill 47 = .ok (.iconst 1, 1) := by decide +kernel
theorem dX9_bill_48 : decode cX9_bill 48 = .ok (.if_icmp .ne 20, 3) := by decide +kernel
theorem dX9_bill_51 : decode cX9_bill 51 = .ok (.aload_n 0, 1) := by decide +kernel
theorem dX9_bill_52 : decode cX9_bill 52 = .ok (.aload_n 0, 1) := by decide +kernel
theorem dX9_bill_53 : decode cX9_bill 53 = .ok (.getfield 28, 3) := by decide +kernel
theorem dX9_bill_56 : decode cX9_bill 56 = .ok (.iload_n 1, 1) := by decide +kernel
theorem dX9_bill_57 : decode cX9_bill 57 = .ok (.aload_n 0, 1) := by decide +kernel
theorem dX9_bill_58 : decode cX9_bill 58 = .ok (.invokevirtual 175, 3) := by decide +kernel
theorem dX9_bill_61 : decode cX9_bill 61 = .ok (.iconst (-1), 1) := by decide +kernel
theorem dX9_bill_62 : decode cX9_bill 62 = .ok (.invokevirtual 149, 3) := by decide +kernel
theorem dX9_bill_65 : decode cX9_bill 65 = .ok (.goto 37, 3) := by decide +kernel
theorem dX9_bill_68 : decode cX9_bill 68 = .ok (.iload_n 2, 1) := by decide +kernel
theorem dX9_bill_69 : decode cX9_bill 69 = .ok (.iconst 2, 1) := by decide +kernel
theorem dX9_bill_70 : decode cX9_bill 70 = .ok (.if_icmp .ne 27, 3) := by decide +kernel
theorem dX9_bill_73 : decode cX9_bill 73 = .ok (.aload_n 0, 1) := by decide +kernel
theorem dX9_bill_74 : decode cX9_bill 74 = .ok (.aload_n 0, 1) := by decide +kernel
theorem dX9_bill_75 : decode cX9_bill 75 = .ok (.getfield 28, 3) := by decide +kernel
theorem dX9_bill_78 : decode cX9_bill 78 = .ok (.iload_n 1, 1) := by decide +kernel
theorem dX9_bill_79 : decode cX9_bill 79 = .ok (.aload_n 0, 1) := by decide +kernel
theorem dX9_bill_80 : decode cX9_bill 80 = .ok (.invokevirtual 175, 3) := by decide +kernel
theorem dX9_bill_83 : decode cX9_bill 83 = .ok (.invokevirtual 179, 3) := by decide +kernel
theorem dX9_bill_86 : decode cX9_bill 86 = .ok (.ifCond .eq 7, 3) := by decide +kernel
theorem dX9_bill_89 : decode cX9_bill 89 = .ok (.iconst 1, 1) := by decide +kernel
theorem dX9_bill_90 : decode cX9_bill 90 = .ok (.goto 12, 3) := by decide +kernel
theorem dX9_bill_93 : decode cX9_bill 93 = .ok (.iconst 0, 1) := by decide +kernel
theorem dX9_bill_94 : decode cX9_bill 94 = .ok (.goto 8, 3) := by decide +kernel
theorem dX9_bill_97 : decode cX9_bill 97 = .ok (.aload_n 0, 1) := by decide +kernel
theorem dX9_bill_98 : decode cX9_bill 98 = .ok (.iload_n 1, 1) := by decide +kernel
theorem dX9_bill_99 : decode cX9_bill 99 = .ok (.invokevirtual 183, 3) := by decide +kernel
theorem dX9_bill_102 : decode cX9_bill 102 = .ok (.ireturn, 1) := by decide +kernel
theorem dX9_limping_0 : decode cX9_limping 0 = .ok (.iconst 0, 1) := by decide +kernel
theorem dX9_limping_1 : decode cX9_limping 1 = .ok (.istore_n 1, 1) := by decide +kernel
theorem dX9_limping_2 : decode cX9_limping 2 = .ok (.iconst 0, 1) := by decide +kernel
theorem dX9_limping_3 : decode cX9_limping 3 = .ok (.istore_n 2, 1) := by decide +kernel
theorem dX9_limping_4 : decode cX9_limping 4 = .ok (.iload_n 2, 1) := by decide +kernel
theorem dX9_limping_5 : decode cX9_limping 5 = .ok (.aload_n 0, 1) := by decide +kernel
theorem dX9_limping_6 : decode cX9_limping 6 = .ok (.getfield 13, 3) := by decide +kernel
theorem dX9_limping_9 : decode cX9_limping 9 = .ok (.iconst 1, 1) := by decide +kernel
theorem dX9_limping_10 : decode cX9_limping 10 = .ok (.iaload, 1) := by decide +kernel
theorem dX9_limping_11 : decode cX9_limping 11 = .ok (.if_icmp .ge 31, 3) := by decide +kernel
theorem dX9_limping_14 : decode cX9_limping 14 = .ok (.iload_n 1, 1) := by decide +kernel
theorem dX9_limping_15 : decode cX9_limping 15 = .ok (.aload_n 0, 1) := by decide +kernel
theorem dX9_limping_16 : decode cX9_limping 16 = .ok (.aload_n 0, 1) := by decide +kernel
theorem dX9_limping_17 : decode cX9_limping 17 = .ok (.getfield 28, 3) := by decide +kernel
theorem dX9_limping_20 : decode cX9_limping 20 = .ok (.iload_n 2, 1) := by decide +kernel
theorem dX9_limping_21 : decode cX9_limping 21 = .ok (.invokevirtual 156, 3) := by decide +kernel
theorem dX9_limping_24 : decode cX9_limping 24 = .ok (.ifCond .eq 9, 3) := by decide +kernel
theorem dX9_limping_27 : decode cX9_limping 27 = .ok (.iconst 1, 1) := by decide +kernel
theorem dX9_limping_28 : decode cX9_limping 28 = .ok (.iload_n 2, 1) := by decide +kernel
theorem dX9_limping_29 : decode cX9_limping 29 = .ok (.ishl, 1) := by decide +kernel
theorem dX9_limping_30 : decode cX9_limping 30 = .ok (.goto 4, 3) := by decide +kernel
theorem dX9_limping_33 : decode cX9_limping 33 = .ok (.iconst 0, 1) := by decide +kernel
theorem dX9_limping_34 : decode cX9_limping 34 = .ok (.ior, 1) := by decide +kernel
theorem dX9_limping_35 : decode cX9_limping 35 = .ok (.istore_n 1, 1) := by decide +kernel
theorem dX9_limping_36 : decode cX9_limping 36 = .ok (.iinc 2 1, 3) := by decide +kernel
theorem dX9_limping_39 : decode cX9_limping 39 = .ok (.goto (-35), 3) := by decide +kernel
theorem dX9_limping_42 : decode cX9_limping 42 = .ok (.iload_n 1, 1) := by decide +kernel
theorem dX9_limping_43 : decode cX9_limping 43 = .ok (.ireturn, 1) := by decide +kernel
theorem dX9_badOnes_0 : decode cX9_badOnes 0 = .ok (.iconst 0, 1) := by decide +kernel
theorem dX9_badOnes_1 : decode cX9_badOnes 1 = .ok (.istore_n 1, 1) := by decide +kernel
theorem dX9_badOnes_2 : decode cX9_badOnes 2 = .ok (.iconst 0, 1) := by decide +kernel
theorem dX9_badOnes_3 : decode cX9_badOnes 3 = .ok (.istore_n 2, 1) := by decide +kernel
theorem dX9_badOnes_4 : decode cX9_badOnes 4 = .ok (.iload_n 2, 1) := by decide +kernel
theorem dX9_badOnes_5 : decode cX9_badOnes 5 = .ok (.aload_n 0, 1) := by decide +kernel
theorem dX9_badOnes_6 : decode cX9_badOnes 6 = .ok (.getfield 13, 3) := by decide +kernel
theorem dX9_badOnes_9 : decode cX9_badOnes 9 = .ok (.iconst 1, 1) := by decide +kernel
theorem dX9_badOnes_10 : decode cX9_badOnes 10 = .ok (.iaload, 1) := by decide +kernel
theorem dX9_badOnes_11 : decode cX9_badOnes 11 = .ok (.if_icmp .ge 38, 3) := by decide +kernel
theorem dX9_badOnes_14 : decode cX9_badOnes 14 = .ok (.iload_n 1, 1) := by decide +kernel
theorem dX9_badOnes_15 : decode cX9_badOnes 15 = .ok (.aload_n 0, 1) := by decide +kernel
theorem dX9_badOnes_16 : decode cX9_badOnes 16 = .ok (.getfield 25, 3) := by decide +kernel
theorem dX9_badOnes_19 : decode cX9_badOnes 19 = .ok (.iload_n 2, 1) := by decide +kernel
theorem dX9_badOnes_20 : decode cX9_badOnes 20 = .ok (.iaload, 1) := by decide +kernel
theorem dX9_badOnes_21 : decode cX9_badOnes 21 = .ok (.aload_n 0, 1) := by decide +kernel
theorem dX9_badOnes_22 : decode cX9_badOnes 22 = .ok (.aload_n 0, 1) := by decide +kernel
theorem dX9_badOnes_23 : decode cX9_badOnes 23 = .ok (.getfield 28, 3) := by decide +kernel
theorem dX9_badOnes_26 : decode cX9_badOnes 26 = .ok (.aload_n 0, 1) := by decide +kernel
theorem dX9_badOnes_27 : decode cX9_badOnes 27 = .ok (.getfield 28, 3) := by decide +kernel
theorem dX9_badOnes_30 : decode cX9_badOnes 30 = .ok (.iconst 0, 1) := by decide +kernel
theorem dX9_badOnes_31 : decode cX9_badOnes 31 = .ok (.iload_n 2, 1) := by decide +kernel
theorem dX9_badOnes_32 : decode cX9_badOnes 32 = .ok (.iadd, 1) := by decide +kernel
theorem dX9_badOnes_33 : decode cX9_badOnes 33 = .ok (.iaload, 1) := by decide +kernel
theorem dX9_badOnes_34 : decode cX9_badOnes 34 = .ok (.invokevirtual 135, 3) := by decide +kernel
theorem dX9_badOnes_37 : decode cX9_badOnes 37 = .ok (.iand, 1) := by decide +kernel
theorem dX9_badOnes_38 : decode cX9_badOnes 38 = .ok (.invokestatic 143, 3) := by decide +kernel
theorem dX9_badOnes_41 : decode cX9_badOnes 41 = .ok (.iadd, 1) := by decide +kernel
theorem dX9_badOnes_42 : decode cX9_badOnes 42 = .ok (.istore_n 1, 1) := by decide +kernel
theorem dX9_badOnes_43 : decode cX9_badOnes 43 = .ok (.iinc 2 1, 3) := by decide +kernel
theorem dX9_badOnes_46 : decode cX9_badOnes 46 = .ok (.goto (-42), 3) := by decide +kernel
theorem dX9_badOnes_49 : decode cX9_badOnes 49 = .ok (.iload_n 1, 1) := by decide +kernel
theorem dX9_badOnes_50 : decode cX9_badOnes 50 = .ok (.iconst 2, 1) := by decide +kernel
theorem dX9_badOnes_51 : decode cX9_badOnes 51 = .ok (.idiv, 1) := by decide +kernel
theorem dX9_badOnes_52 : decode cX9_badOnes 52 = .ok (.ireturn, 1) := by decide +kernel
theorem dX9_alone_0 : decode cX9_alone 0 = .ok (.iconst 0, 1) := by decide +kernel
theorem dX9_alone_1 : decode cX9_alone 1 = .ok (.istore_n 1, 1) := by decide +kernel
theorem dX9_alone_2 : decode cX9_alone 2 = .ok (.iconst 0, 1) := by decide +kernel
theorem dX9_alone_3 : decode cX9_alone 3 = .ok (.istore_n 2, 1) := by decide +kernel
theorem dX9_alone_4 : decode cX9_alone 4 = .ok (.iload_n 2, 1) := by decide +kernel
theorem dX9_alone_5 : decode cX9_alone 5 = .ok (.aload_n 0, 1) := by decide +kernel
theorem dX9_alone_6 : decode cX9_alone 6 = .ok (.getfield 13, 3) := by decide +kernel
theorem dX9_alone_9 : decode cX9_alone 9 = .ok (.iconst 1, 1) := by decide +kernel
theorem dX9_alone_10 : decode cX9_alone 10 = .ok (.iaload, 1) := by decide +kernel
theorem dX9_alone_11 : decode cX9_alone 11 = .ok (.if_icmp .ge 41, 3) := by decide +kernel
theorem dX9_alone_14 : decode cX9_alone 14 = .ok (.iload_n 1, 1) := by decide +kernel
theorem dX9_alone_15 : decode cX9_alone 15 = .ok (.aload_n 0, 1) := by decide +kernel
theorem dX9_alone_16 : decode cX9_alone 16 = .ok (.aload_n 0, 1) := by decide +kernel
theorem dX9_alone_17 : decode cX9_alone 17 = .ok (.getfield 28, 3) := by decide +kernel
theorem dX9_alone_20 : decode cX9_alone 20 = .ok (.aload_n 0, 1) := by decide +kernel
theorem dX9_alone_21 : decode cX9_alone 21 = .ok (.getfield 28, 3) := by decide +kernel
theorem dX9_alone_24 : decode cX9_alone 24 = .ok (.iconst 0, 1) := by decide +kernel
theorem dX9_alone_25 : decode cX9_alone 25 = .ok (.iload_n 2, 1) := by decide +kernel
theorem dX9_alone_26 : decode cX9_alone 26 = .ok (.iadd, 1) := by decide +kernel
theorem dX9_alone_27 : decode cX9_alone 27 = .ok (.iaload, 1) := by decide +kernel
theorem dX9_alone_28 : decode cX9_alone 28 = .ok (.invokevirtual 135, 3) := by decide +kernel
theorem dX9_alone_31 : decode cX9_alone 31 = .ok (.iconst 1, 1) := by decide +kernel
theorem dX9_alone_32 : decode cX9_alone 32 = .ok (.iload_n 2, 1) := by decide +kernel
theorem dX9_alone_33 : decode cX9_alone 33 = .ok (.ishl, 1) := by decide +kernel
theorem dX9_alone_34 : decode cX9_alone 34 = .ok (.if_icmp .ne 9, 3) := by decide +kernel
theorem dX9_alone_37 : decode cX9_alone 37 = .ok (.iconst 1, 1) := by decide +kernel
theorem dX9_alone_38 : decode cX9_alone 38 = .ok (.iload_n 2, 1) := by decide +kernel
theorem dX9_alone_39 : decode cX9_alone 39 = .ok (.ishl, 1) := by decide +kernel
theorem dX9_alone_40 : decode cX9_alone 40 = .ok (.goto 4, 3) := by decide +kernel
theorem dX9_alone_43 : decode cX9_alone 43 = .ok (.iconst 0, 1) := by decide +kernel
theorem dX9_alone_44 : decode cX9_alone 44 = .ok (.ior, 1) := by decide +kernel
theorem dX9_alone_45 : decode cX9_alone 45 = .ok (.istore_n 1, 1) := by decide +kernel
theorem dX9_alone_46 : decode cX9_alone 46 = .ok (.iinc 2 1, 3) := by decide +kernel
theorem dX9_alone_49 : decode cX9_alone 49 = .ok (.goto (-45), 3) := by decide +kernel
theorem dX9_alone_52 : decode cX9_alone 52 = .ok (.iload_n 1, 1) := by decide +kernel
theorem dX9_alone_53 : decode cX9_alone 53 = .ok (.ireturn, 1) := by decide +kernel
theorem dX9_restless_0 : decode cX9_restless 0 = .ok (.iconst 0, 1) := by decide +kernel
theorem dX9_restless_1 : decode cX9_restless 1 = .ok (.istore_n 1, 1) := by decide +kernel
theorem dX9_restless_2 : decode cX9_restless 2 = .ok (.iconst 0, 1) := by decide +kernel
theorem dX9_restless_3 : decode cX9_restless 3 = .ok (.istore_n 2, 1) := by decide +kernel
theorem dX9_restless_4 : decode cX9_restless 4 = .ok (.iload_n 2, 1) := by decide +kernel
theorem dX9_restless_5 : decode cX9_restless 5 = .ok (.aload_n 0, 1) := by decide +kernel
theorem dX9_restless_6 : decode cX9_restless 6 = .ok (.getfield 13, 3) := by decide +kernel
theorem dX9_restless_9 : decode cX9_restless 9 = .ok (.iconst 1, 1) := by decide +kernel
theorem dX9_restless_10 : decode cX9_restless 10 = .ok (.iaload, 1) := by decide +kernel
theorem dX9_restless_11 : decode cX9_restless 11 = .ok (.if_icmp .ge 41, 3) := by decide +kernel
theorem dX9_restless_14 : decode cX9_restless 14 = .ok (.iload_n 1, 1) := by decide +kernel
theorem dX9_restless_15 : decode cX9_restless 15 = .ok (.aload_n 0, 1) := by decide +kernel
theorem dX9_restless_16 : decode cX9_restless 16 = .ok (.iload_n 2, 1) := by decide +kernel
theorem dX9_restless_17 : decode cX9_restless 17 = .ok (.aload_n 0, 1) := by decide +kernel
theorem dX9_restless_18 : decode cX9_restless 18 = .ok (.iload_n 2, 1) := by decide +kernel
theorem dX9_restless_19 : decode cX9_restless 19 = .ok (.invokevirtual 186, 3) := by decide +kernel
theorem dX9_restless_22 : decode cX9_restless 22 = .ok (.invokevirtual 189, 3) := by decide +kernel
theorem dX9_restless_25 : decode cX9_restless 25 = .ok (.aload_n 0, 1) := by decide +kernel
theorem dX9_restless_26 : decode cX9_restless 26 = .ok (.aload_n 0, 1) := by decide +kernel
theorem dX9_restless_27 : decode cX9_restless 27 = .ok (.getfield 28, 3) := by decide +kernel
theorem dX9_restless_30 : decode cX9_restless 30 = .ok (.iload_n 2, 1) := by decide +kernel
theorem dX9_restless_31 : decode cX9_restless 31 = .ok (.invokevirtual 162, 3) := by decide +kernel
theorem dX9_restless_34 : decode cX9_restless 34 = .ok (.if_icmp .ge 9, 3) := by decide +kernel
theorem dX9_restless_37 : decode cX9_restless 37 = .ok (.iconst 1, 1) := by decide +kernel
theorem dX9_restless_38 : decode cX9_restless 38 = .ok (.iload_n 2, 1) := by decide +kernel
theorem dX9_restless_39 : decode cX9_restless 39 = .ok (.ishl, 1) := by decide +kernel
theorem dX9_restless_40 : decode cX9_restless 40 = .ok (.goto 4, 3) := by decide +kernel
theorem dX9_restless_43 : decode cX9_restless 43 = .ok (.iconst 0, 1) := by decide +kernel
theorem dX9_restless_44 : decode cX9_restless 44 = .ok (.ior, 1) := by decide +kernel
theorem dX9_restless_45 : decode cX9_restless 45 = .ok (.istore_n 1, 1) := by decide +kernel
theorem dX9_restless_46 : decode cX9_restless 46 = .ok (.iinc 2 1, 3) := by decide +kernel
theorem dX9_restless_49 : decode cX9_restless 49 = .ok (.goto (-45), 3) := by decide +kernel
theorem dX9_restless_52 : decode cX9_restless 52 = .ok (.iload_n 1, 1) := by decide +kernel
theorem dX9_restless_53 : decode cX9_restless 53 = .ok (.ireturn, 1) := by decide +kernel
theorem dX9_now_0 : decode cX9_now 0 = .ok (.aload_n 0, 1) := by decide +kernel
theorem dX9_now_1 : decode cX9_now 1 = .ok (.iconst 0, 1) := by decide +kernel
theorem dX9_now_2 : decode cX9_now 2 = .ok (.putfield 62, 3) := by decide +kernel
theorem dX9_now_5 : decode cX9_now 5 = .ok (.iload_n 1, 1) := by decide +kernel
theorem dX9_now_6 : decode cX9_now 6 = .ok (.iconst 0, 1) := by decide +kernel
theorem dX9_now_7 : decode cX9_now 7 = .ok (.bipush 7, 2) := by decide +kernel
theorem dX9_now_9 : decode cX9_now 9 = .ok (.invokestatic 66, 3) := by decide +kernel
theorem dX9_now_12 : decode cX9_now 12 = .ok (.ifCond .ne 5, 3) := by decide +kernel
theorem dX9_now_15 : decode cX9_now 15 = .ok (.iconst (-1), 1) := by decide +kernel
theorem dX9_now_16 : decode cX9_now 16 = .ok (.ireturn, 1) := by decide +kernel
theorem dX9_now_17 : decode cX9_now 17 = .ok (.iload_n 1, 1) := by decide +kernel
theorem dX9_now_18 : decode cX9_now 18 = .ok (.iconst 3, 1) := by decide +kernel
theorem dX9_now_19 : decode cX9_now 19 = .ok (.if_icmp .ge 40, 3) := by decide +kernel
theorem dX9_now_22 : decode cX9_now 22 = .ok (.iload_n 1, 1) := by decide +kernel
theorem dX9_now_23 : decode cX9_now 23 = .ok (.ifCond .ne 13, 3) := by decide +kernel
theorem dX9_now_26 : decode cX9_now 26 = .ok (.aload_n 0, 1) := by decide +kernel
theorem dX9_now_27 : decode cX9_now 27 = .ok (.getfield 28, 3) := by decide +kernel
theorem dX9_now_30 : decode cX9_now 30 = .ok (.bipush 24, 2) := by decide +kernel
theorem dX9_now_32 : decode cX9_now 32 = .ok (.iaload, 1) := by decide +kernel
theorem dX9_now_33 : decode cX9_now 33 = .ok (.goto 25, 3) := by decide +kernel
theorem dX9_now_36 : decode cX9_now 36 = .ok (.iload_n 1, 1) := by decide +kernel
theorem dX9_now_37 : decode cX9_now 37 = .ok (.iconst 1, 1) := by decide +kernel
theorem dX9_now_38 : decode cX9_now 38 = .ok (.if_icmp .ne 13, 3) := by decide +kernel
theorem dX9_now_41 : decode cX9_now 41 = .ok (.aload_n 0, 1) := by decide +kernel
theorem dX9_now_42 : decode cX9_now 42 = .ok (.getfield 28, 3) := by decide +kernel
theorem dX9_now_45 : decode cX9_now 45 = .ok (.bipush 23, 2) := by decide +kernel
theorem dX9_now_47 : decode cX9_now 47 = .ok (.iaload, 1) := by decide +kernel
theorem dX9_now_48 : decode cX9_now 48 = .ok (.goto 10, 3) := by decide +kernel
theorem dX9_now_51 : decode cX9_now 51 = .ok (.aload_n 0, 1) := by decide +kernel
theorem dX9_now_52 : decode cX9_now 52 = .ok (.getfield 28, 3) := by decide +kernel
theorem dX9_now_55 : decode cX9_now 55 = .ok (.bipush 22, 2) := by decide +kernel
theorem dX9_now_57 : decode cX9_now 57 = .ok (.iaload, 1) := by decide +kernel
theorem dX9_now_58 : decode cX9_now 58 = .ok (.ireturn, 1) := by decide +kernel
theorem dX9_now_59 : decode cX9_now 59 = .ok (.iload_n 1, 1) := by decide +kernel
theorem dX9_now_60 : decode cX9_now 60 = .ok (.iconst 3, 1) := by decide +kernel
theorem dX9_now_61 : decode cX9_now 61 = .ok (.if_icmp .ne 10, 3) := by decide +kernel
theorem dX9_now_64 : decode cX9_now 64 = .ok (.aload_n 0, 1) := by decide +kernel
theorem dX9_now_65 : decode cX9_now 65 = .ok (.invokevirtual 192, 3) := by decide +kernel
theorem dX9_now_68 : decode cX9_now 68 = .ok (.goto 44, 3) := by decide +kernel
theorem dX9_now_71 : decode cX9_now 71 = .ok (.iload_n 1, 1) := by decide +kernel
theorem dX9_now_72 : decode cX9_now 72 = .ok (.iconst 4, 1) := by decide +kernel
theorem dX9_now_73 : decode cX9_now 73 = .ok (.if_icmp .ne 10, 3) := by decide +kernel
theorem dX9_now_76 : decode cX9_now 76 = .ok (.aload_n 0, 1) := by decide +kernel
theorem dX9_now_77 : decode cX9_now 77 = .ok (.invokevirtual 195, 3) := by decide +kernel
theorem dX9_now_80 : decode cX9_now 80 = .ok (.goto 32, 3) := by decide +kernel
theorem dX9_now_83 : decode cX9_now 83 = .ok (.iload_n 1, 1) := by decide +kernel
theorem dX9_now_84 : decode cX9_now 84 = .ok (.iconst 5, 1) := by decide +kernel
theorem dX9_now_85 : decode cX9_now 85 = .ok (.if_icmp .ne 10, 3) := by decide +kernel
theorem dX9_now_88 : decode cX9_now 88 = .ok (.aload_n 0, 1) := by decide +kernel
theorem dX9_now_89 : decode cX9_now 89 = .ok (.invokevirtual 198, 3) := by decide +kernel
theorem dX9_now_92 : decode cX9_now 92 = .ok (.goto 20, 3) := by decide +kernel
theorem dX9_now_95 : decode cX9_now 95 = .ok (.iload_n 1, 1) := by decide +kernel
theorem dX9_now_96 : decode cX9_now 96 = .ok (.bipush 6, 2) := by decide +kernel
theorem dX9_now_98 : decode cX9_now 98 = .ok (.if_icmp .ne 10, 3) := by decide +kernel
theorem dX9_now_101 : decode cX9_now 101 = .ok (.aload_n 0, 1) := by decide +kernel
theorem dX9_now_102 : decode cX9_now 102 = .ok (.invokevirtual 201, 3) := by decide +kernel
theorem dX9_now_105 : decode cX9_now 105 = .ok (.goto 7, 3) := by decide +kernel
theorem dX9_now_108 : decode cX9_now 108 = .ok (.aload_n 0, 1) := by decide +kernel
theorem dX9_now_109 : decode cX9_now 109 = .ok (.getfield 128, 3) := by decide +kernel
theorem dX9_now_112 : decode cX9_now 112 = .ok (.ireturn, 1) := by decide +kernel
theorem dX9_notes_0 : decode cX9_notes 0 = .ok (.aload_n 0, 1) := by decide +kernel
theorem dX9_notes_1 : decode cX9_notes 1 = .ok (.getfield 128, 3) := by decide +kernel
theorem dX9_notes_4 : decode cX9_notes 4 = .ok (.bipush 10, 2) := by decide +kernel
theorem dX9_notes_6 : decode cX9_notes 6 = .ok (.if_icmp .ne 39, 3) := by decide +kernel
theorem dX9_notes_9 : decode cX9_notes 9 = .ok (.iconst 0, 1) := by decide +kernel
theorem dX9_notes_10 : decode cX9_notes 10 = .ok (.istore_n 1, 1) := by decide +kernel
theorem dX9_notes_11 : decode cX9_notes 11 = .ok (.iload_n 1, 1) := by decide +kernel
theorem dX9_notes_12 : decode cX9_notes 12 = .ok (.sipush 225, 3) := by decide +kernel
theorem dX9_notes_15 : decode cX9_notes 15 = .ok (.if_icmp .ge 24, 3) := by decide +kernel
theorem dX9_notes_18 : decode cX9_notes 18 = .ok (.aload_n 0, 1) := by decide +kernel
theorem dX9_notes_19 : decode cX9_notes 19 = .ok (.getfield 41, 3) := by decide +kernel
theorem dX9_notes_22 : decode cX9_notes 22 = .ok (.iload_n 1, 1) := by decide +kernel
theorem dX9_notes_23 : decode cX9_notes 23 = .ok (.aload_n 0, 1) := by decide +kernel
theorem dX9_notes_24 : decode cX9_notes 24 = .ok (.getfield 41, 3) := by decide +kernel
theorem dX9_notes_27 : decode cX9_notes 27 = .ok (.iload_n 1, 1) := by decide +kernel
theorem dX9_notes_28 : decode cX9_notes 28 = .ok (.bipush 25, 2) := by decide +kernel
theorem dX9_notes_30 : decode cX9_notes 30 = .ok (.iadd, 1) := by decide +kernel
theorem dX9_notes_31 : decode cX9_notes 31 = .ok (.iaload, 1) := by decide +kernel
theorem dX9_notes_32 : decode cX9_notes 32 = .ok (.iastore, 1) := by decide +kernel
theorem dX9_notes_33 : decode cX9_notes 33 = .ok (.iinc 1 1, 3) := by decide +kernel
theorem dX9_notes_36 : decode cX9_notes 36 = .ok (.goto (-25), 3) := by decide +kernel
theorem dX9_notes_39 : decode cX9_notes 39 = .ok (.aload_n 0, 1) := by decide +kernel
theorem dX9_notes_40 : decode cX9_notes 40 = .ok (.bipush 9, 2) := by decide +kernel
theorem dX9_notes_42 : decode cX9_notes 42 = .ok (.putfield 128, 3) := by decide +kernel
theorem dX9_notes_45 : decode cX9_notes 45 = .ok (.iconst 0, 1) := by decide +kernel
theorem dX9_notes_46 : decode cX9_notes 46 = .ok (.istore_n 1, 1) := by decide +kernel
theorem dX9_notes_47 : decode cX9_notes 47 = .ok (.iload_n 1, 1) := by decide +kernel
theorem dX9_notes_48 : decode cX9_notes 48 = .ok (.bipush 25, 2) := by decide +kernel
theorem dX9_notes_50 : decode cX9_notes 50 = .ok (.if_icmp .ge 29, 3) := by decide +kernel
theorem dX9_notes_53 : decode cX9_notes 53 = .ok (.aload_n 0, 1) := by decide +kernel
theorem dX9_notes_54 : decode cX9_notes 54 = .ok (.getfield 41, 3) := by decide +kernel
theorem dX9_notes_57 : decode cX9_notes 57 = .ok (.bipush 25, 2) := by decide +kernel
theorem dX9_notes_59 : decode cX9_notes 59 = .ok (.aload_n 0, 1) := by decide +kernel
theorem dX9_notes_60 : decode cX9_notes 60 = .ok (.getfield 128, 3) := by decide +kernel
theorem dX9_notes_63 : decode cX9_notes 63 = .ok (.imul, 1) := by decide +kernel
theorem dX9_notes_64 : decode cX9_notes 64 = .ok (.iload_n 1, 1) := by decide +kernel
theorem dX9_notes_65 : decode cX9_notes 65 = .ok (.iadd, 1) := by decide +kernel
theorem dX9_notes_66 : decode cX9_notes 66 = .ok (.aload_n 0, 1) := by decide +kernel
theorem dX9_notes_67 : decode cX9_notes 67 = .ok (.getfield 28, 3) := by decide +kernel
theorem dX9_notes_70 : decode cX9_notes 70 = .ok (.iload_n 1, 1) := by decide +kernel
theorem dX9_notes_71 : decode cX9_notes 71 = .ok (.iaload, 1) := by decide +kernel
theorem dX9_notes_72 : decode cX9_notes 72 = .ok (.iastore, 1) := by decide +kernel
theorem dX9_notes_73 : decode cX9_notes 73 = .ok (.iinc 1 1, 3) := by decide +kernel
theorem dX9_notes_76 : decode cX9_notes 76 = .ok (.goto (-29), 3) := by decide +kernel
theorem dX9_notes_79 : decode cX9_notes 79 = .ok (.aload_n 0, 1) := by decide +kernel
theorem dX9_notes_80 : decode cX9_notes 80 = .ok (.dup, 1) := by decide +kernel
theorem dX9_notes_81 : decode cX9_notes 81 = .ok (.getfield 128, 3) := by decide +kernel
theorem dX9_notes_84 : decode cX9_notes 84 = .ok (.iconst 1, 1) := by decide +kernel
theorem dX9_notes_85 : decode cX9_notes 85 = .ok (.iadd, 1) := by decide +kernel
theorem dX9_notes_86 : decode cX9_notes 86 = .ok (.putfield 128, 3) := by decide +kernel
theorem dX9_notes_89 : decode cX9_notes 89 = .ok (.return_, 1) := by decide +kernel
theorem dX9_hurts_0 : decode cX9_hurts 0 = .ok (.aload_n 0, 1) := by decide +kernel
theorem dX9_hurts_1 : decode cX9_hurts 1 = .ok (.iconst 0, 1) := by decide +kernel
theorem dX9_hurts_2 : decode cX9_hurts 2 = .ok (.putfield 62, 3) := by decide +kernel
theorem dX9_hurts_5 : decode cX9_hurts 5 = .ok (.aload_n 0, 1) := by decide +kernel
theorem dX9_hurts_6 : decode cX9_hurts 6 = .ok (.iload_n 1, 1) := by decide +kernel
theorem dX9_hurts_7 : decode cX9_hurts 7 = .ok (.invokevirtual 153, 3) := by decide +kernel
theorem dX9_hurts_10 : decode cX9_hurts 10 = .ok (.ifCond .eq 12, 3) := by decide +kernel
theorem dX9_hurts_13 : decode cX9_hurts 13 = .ok (.iload_n 2, 1) := by decide +kernel
theorem dX9_hurts_14 : decode cX9_hurts 14 = .ok (.iconst 0, 1) := by decide +kernel
theorem dX9_hurts_15 : decode cX9_hurts 15 = .ok (.iconst 1, 1) := by decide +kernel
theorem dX9_hurts_16 : decode cX9_hurts 16 = .ok (.invokestatic 66, 3) := by decide +kernel
theorem dX9_hurts_19 : decode cX9_hurts 19 = .ok (.ifCond .ne 5, 3) := by decide +kernel
theorem dX9_hurts_22 : decode cX9_hurts 22 = .ok (.iconst (-1), 1) := by decide +kernel
theorem dX9_hurts_23 : decode cX9_hurts 23 = .ok (.ireturn, 1) := by decide +kernel
theorem dX9_hurts_24 : decode cX9_hurts 24 = .ok (.aload_n 0, 1) := by decide +kernel
theorem dX9_hurts_25 : decode cX9_hurts 25 = .ok (.invokevirtual 204, 3) := by decide +kernel
theorem dX9_hurts_28 : decode cX9_hurts 28 = .ok (.aload_n 0, 1) := by decide +kernel
theorem dX9_hurts_29 : decode cX9_hurts 29 = .ok (.getfield 28, 3) := by decide +kernel
theorem dX9_hurts_32 : decode cX9_hurts 32 = .ok (.bipush 21, 2) := by decide +kernel
theorem dX9_hurts_34 : decode cX9_hurts 34 = .ok (.iaload, 1) := by decide +kernel
theorem dX9_hurts_35 : decode cX9_hurts 35 = .ok (.iload_n 1, 1) := by decide +kernel
theorem dX9_hurts_36 : decode cX9_hurts 36 = .ok (.ishr, 1) := by decide +kernel
theorem dX9_hurts_37 : decode cX9_hurts 37 = .ok (.iconst 1, 1) := by decide +kernel
theorem dX9_hurts_38 : decode cX9_hurts 38 = .ok (.iand, 1) := by decide +kernel
theorem dX9_hurts_39 : decode cX9_hurts 39 = .ok (.istore_n 3, 1) := by decide +kernel
theorem dX9_hurts_40 : decode cX9_hurts 40 = .ok (.aload_n 0, 1) := by decide +kernel
theorem dX9_hurts_41 : decode cX9_hurts 41 = .ok (.getfield 28, 3) := by decide +kernel
theorem dX9_hurts_44 : decode cX9_hurts 44 = .ok (.bipush 21, 2) := by decide +kernel
theorem dX9_hurts_46 : decode cX9_hurts 46 = .ok (.aload_n 0, 1) := by decide +kernel
theorem dX9_hurts_47 : decode cX9_hurts 47 = .ok (.getfield 28, 3) := by decide +kernel
theorem dX9_hurts_50 : decode cX9_hurts 50 = .ok (.bipush 21, 2) := by decide +kernel
theorem dX9_hurts_52 : decode cX9_hurts 52 = .ok (.iaload, 1) := by decide +kernel
theorem dX9_hurts_53 : decode cX9_hurts 53 = .ok (.iconst 1, 1) := by decide +kernel
theorem dX9_hurts_54 : decode cX9_hurts 54 = .ok (.iload_n 1, 1) := by decide +kernel
theorem dX9_hurts_55 : decode cX9_hurts 55 = .ok (.ishl, 1) := by decide +kernel
theorem dX9_hurts_56 : decode cX9_hurts 56 = .ok (.iconst (-1), 1) := by decide +kernel
theorem dX9_hurts_57 : decode cX9_hurts 57 = .ok (.ixor, 1) := by decide +kernel
theorem dX9_hurts_58 : decode cX9_hurts 58 = .ok (.iand, 1) := by decide +kernel
theorem dX9_hurts_59 : decode cX9_hurts 59 = .ok (.iload_n 2, 1) := by decide +kernel
theorem dX9_hurts_60 : decode cX9_hurts 60 = .ok (.iload_n 1, 1) := by decide +kernel
theorem dX9_hurts_61 : decode cX9_hurts 61 = .ok (.ishl, 1) := by decide +kernel
theorem dX9_hurts_62 : decode cX9_hurts 62 = .ok (.ior, 1) := by decide +kernel
theorem dX9_hurts_63 : decode cX9_hurts 63 = .ok (.iastore, 1) := by decide +kernel
theorem dX9_hurts_64 : decode cX9_hurts 64 = .ok (.iload_n 3, 1) := by decide +kernel
theorem dX9_hurts_65 : decode cX9_hurts 65 = .ok (.ireturn, 1) := by decide +kernel
theorem dX9_deeds_0 : decode cX9_deeds 0 = .ok (.aload_n 0, 1) := by decide +kernel
theorem dX9_deeds_1 : decode cX9_deeds 1 = .ok (.iconst 0, 1) := by decide +kernel
theorem dX9_deeds_2 : decode cX9_deeds 2 = .ok (.putfield 62, 3) := by decide +kernel
theorem dX9_deeds_5 : decode cX9_deeds 5 = .ok (.aload_n 0, 1) := by decide +kernel
theorem dX9_deeds_6 : decode cX9_deeds 6 = .ok (.iload_n 1, 1) := by decide +kernel
theorem dX9_deeds_7 : decode cX9_deeds 7 = .ok (.invokevirtual 153, 3) := by decide +kernel
theorem dX9_deeds_10 : decode cX9_deeds 10 = .ok (.ifCond .ne 5, 3) := by decide +kernel
theorem dX9_deeds_13 : decode cX9_deeds 13 = .ok (.iconst (-1), 1) := by decide +kernel
theorem dX9_deeds_14 : decode cX9_deeds 14 = .ok (.ireturn, 1) := by decide +kernel
theorem dX9_deeds_15 : decode cX9_deeds 15 = .ok (.aload_n 0, 1) := by decide +kernel
theorem dX9_deeds_16 : decode cX9_deeds 16 = .ok (.getfield 28, 3) := by decide +kernel
theorem dX9_deeds_19 : decode cX9_deeds 19 = .ok (.bipush 14, 2) := by decide +kernel
theorem dX9_deeds_21 : decode cX9_deeds 21 = .ok (.iload_n 1, 1) := by decide +kernel
theorem dX9_deeds_22 : decode cX9_deeds 22 = .ok (.iadd, 1) := by decide +kernel
theorem dX9_deeds_23 : decode cX9_deeds 23 = .ok (.iaload, 1) := by decide +kernel
theorem dX9_deeds_24 : decode cX9_deeds 24 = .ok (.bipush 99, 2) := by decide +kernel
theorem dX9_deeds_26 : decode cX9_deeds 26 = .ok (.if_icmp .ne 6, 3) := by decide +kernel
theorem dX9_deeds_29 : decode cX9_deeds 29 = .ok (.bipush (-2), 2) := by decide +kernel
theorem dX9_deeds_31 : decode cX9_deeds 31 = .ok (.ireturn, 1) := by decide +kernel
theorem dX9_deeds_32 : decode cX9_deeds 32 = .ok (.aload_n 0, 1) := by decide +kernel
theorem dX9_deeds_33 : decode cX9_deeds 33 = .ok (.invokevirtual 204, 3) := by decide +kernel
theorem dX9_deeds_36 : decode cX9_deeds 36 = .ok (.aload_n 0, 1) := by decide +kernel
theorem dX9_deeds_37 : decode cX9_deeds 37 = .ok (.getfield 28, 3) := by decide +kernel
theorem dX9_deeds_40 : decode cX9_deeds 40 = .ok (.bipush 14, 2) := by decide +kernel
theorem dX9_deeds_42 : decode cX9_deeds 42 = .ok (.iload_n 1, 1) := by decide +kernel
theorem dX9_deeds_43 : decode cX9_deeds 43 = .ok (.iadd, 1) := by decide +kernel
theorem dX9_deeds_44 : decode cX9_deeds 44 = .ok (.dup2, 1) := by decide +kernel
theorem dX9_deeds_45 : decode cX9_deeds 45 = .ok (.iaload, 1) := by decide +kernel
theorem dX9_deeds_46 : decode cX9_deeds 46 = .ok (.iconst 1, 1) := by decide +kernel
theorem dX9_deeds_47 : decode cX9_deeds 47 = .ok (.iadd, 1) := by decide +kernel
theorem dX9_deeds_48 : decode cX9_deeds 48 = .ok (.iastore, 1) := by decide +kernel
theorem dX9_deeds_49 : decode cX9_deeds 49 = .ok (.aload_n 0, 1) := by decide +kernel
theorem dX9_deeds_50 : decode cX9_deeds 50 = .ok (.aload_n 0, 1) := by decide +kernel
theorem dX9_deeds_51 : decode cX9_deeds 51 = .ok (.getfield 28, 3) := by decide +kernel
theorem dX9_deeds_54 : decode cX9_deeds 54 = .ok (.iload_n 1, 1) := by decide +kernel
theorem dX9_deeds_55 : decode cX9_deeds 55 = .ok (.invokevirtual 159, 3) := by decide +kernel
theorem dX9_deeds_58 : decode cX9_deeds 58 = .ok (.ireturn, 1) := by decide +kernel
theorem dX9_earns_0 : decode cX9_earns 0 = .ok (.aload_n 0, 1) := by decide +kernel
theorem dX9_earns_1 : decode cX9_earns 1 = .ok (.iconst 0, 1) := by decide +kernel
theorem dX9_earns_2 : decode cX9_earns 2 = .ok (.putfield 62, 3) := by decide +kernel
theorem dX9_earns_5 : decode cX9_earns 5 = .ok (.aload_n 0, 1) := by decide +kernel
theorem dX9_earns_6 : decode cX9_earns 6 = .ok (.iload_n 1, 1) := by decide +kernel
theorem dX9_earns_7 : decode cX9_earns 7 = .ok (.invokevirtual 153, 3) := by decide +kernel
theorem dX9_earns_10 : decode cX9_earns 10 = .ok (.ifCond .eq 14, 3) := by decide +kernel
theorem dX9_earns_13 : decode cX9_earns 13 = .ok (.iload_n 2, 1) := by decide +kernel
theorem dX9_earns_14 : decode cX9_earns 14 = .ok (.bipush (-99), 2) := by decide +kernel
theorem dX9_earns_16 : decode cX9_earns 16 = .ok (.bipush 99, 2) := by decide +kernel
theorem dX9_earns_18 : decode cX9_earns 18 = .ok (.invokestatic 66, 3) := by decide +kernel
theorem dX9_earns_21 : decode cX9_earns 21 = .ok (.ifCond .ne 5, 3) := by decide +kernel
theorem dX9_earns_24 : decode cX9_earns 24 = .ok (.iconst (-1), 1) := by decide +kernel
theorem dX9_earns_25 : decode cX9_earns 25 = .ok (.ireturn, 1) := by decide +kernel
theorem dX9_earns_26 : decode cX9_earns 26 = .ok (.aload_n 0, 1) := by decide +kernel
theorem dX9_earns_27 : decode cX9_earns 27 = .ok (.invokevirtual 204, 3) := by decide +kernel
theorem dX9_earns_30 : decode cX9_earns 30 = .ok (.aload_n 0, 1) := by decide +kernel
theorem dX9_earns_31 : decode cX9_earns 31 = .ok (.getfield 28, 3) := by decide +kernel
theorem dX9_earns_34 : decode cX9_earns 34 = .ok (.bipush 7, 2) := by decide +kernel
theorem dX9_earns_36 : decode cX9_earns 36 = .ok (.iload_n 1, 1) := by decide +kernel
theorem dX9_earns_37 : decode cX9_earns 37 = .ok (.iadd, 1) := by decide +kernel
theorem dX9_earns_38 : decode cX9_earns 38 = .ok (.iaload, 1) := by decide +kernel
theorem dX9_earns_39 : decode cX9_earns 39 = .ok (.iload_n 2, 1) := by decide +kernel
theorem dX9_earns_40 : decode cX9_earns 40 = .ok (.iadd, 1) := by decide +kernel
theorem dX9_earns_41 : decode cX9_earns 41 = .ok (.istore_n 3, 1) := by decide +kernel
theorem dX9_earns_42 : decode cX9_earns 42 = .ok (.aload_n 0, 1) := by decide +kernel
theorem dX9_earns_43 : decode cX9_earns 43 = .ok (.getfield 28, 3) := by decide +kernel
theorem dX9_earns_46 : decode cX9_earns 46 = .ok (.bipush 7, 2) := by decide +kernel
theorem dX9_earns_48 : decode cX9_earns 48 = .ok (.iload_n 1, 1) := by decide +kernel
theorem dX9_earns_49 : decode cX9_earns 49 = .ok (.iadd, 1) := by decide +kernel
theorem dX9_earns_50 : decode cX9_earns 50 = .ok (.iload_n 3, 1) := by decide +kernel
theorem dX9_earns_51 : decode cX9_earns 51 = .ok (.ifCond .ge 7, 3) := by decide +kernel
theorem dX9_earns_54 : decode cX9_earns 54 = .ok (.iconst 0, 1) := by decide +kernel
theorem dX9_earns_55 : decode cX9_earns 55 = .ok (.goto 17, 3) := by decide +kernel
theorem dX9_earns_58 : decode cX9_earns 58 = .ok (.iload_n 3, 1) := by decide +kernel
theorem dX9_earns_59 : decode cX9_earns 59 = .ok (.sipush 999, 3) := by decide +kernel
theorem dX9_earns_62 : decode cX9_earns 62 = .ok (.if_icmp .le 9, 3) := by decide +kernel
theorem dX9_earns_65 : decode cX9_earns 65 = .ok (.sipush 999, 3) := by decide +kernel
theorem dX9_earns_68 : decode cX9_earns 68 = .ok (.goto 4, 3) := by decide +kernel
theorem dX9_earns_71 : decode cX9_earns 71 = .ok (.iload_n 3, 1) := by decide +kernel
theorem dX9_earns_72 : decode cX9_earns 72 = .ok (.iastore, 1) := by decide +kernel
theorem dX9_earns_73 : decode cX9_earns 73 = .ok (.aload_n 0, 1) := by decide +kernel
theorem dX9_earns_74 : decode cX9_earns 74 = .ok (.getfield 28, 3) := by decide +kernel
theorem dX9_earns_77 : decode cX9_earns 77 = .ok (.bipush 7, 2) := by decide +kernel
theorem dX9_earns_79 : decode cX9_earns 79 = .ok (.iload_n 1, 1) := by decide +kernel
theorem dX9_earns_80 : decode cX9_earns 80 = .ok (.iadd, 1) := by decide +kernel
theorem dX9_earns_81 : decode cX9_earns 81 = .ok (.iaload, 1) := by decide +kernel
theorem dX9_earns_82 : decode cX9_earns 82 = .ok (.ireturn, 1) := by decide +kernel
theorem dX9_names_0 : decode cX9_names 0 = .ok (.aload_n 0, 1) := by decide +kernel
theorem dX9_names_1 : decode cX9_names 1 = .ok (.iconst 0, 1) := by decide +kernel
theorem dX9_names_2 : decode cX9_names 2 = .ok (.putfield 62, 3) := by decide +kernel
theorem dX9_names_5 : decode cX9_names 5 = .ok (.aload_n 0, 1) := by decide +kernel
theorem dX9_names_6 : decode cX9_names 6 = .ok (.iload_n 1, 1) := by decide +kernel
theorem dX9_names_7 : decode cX9_names 7 = .ok (.invokevirtual 153, 3) := by decide +kernel
theorem dX9_names_10 : decode cX9_names 10 = .ok (.ifCond .eq 11, 3) := by decide +kernel
theorem dX9_names_13 : decode cX9_names 13 = .ok (.aload_n 0, 1) := by decide +kernel
theorem dX9_names_14 : decode cX9_names 14 = .ok (.iload_n 2, 1) := by decide +kernel
theorem dX9_names_15 : decode cX9_names 15 = .ok (.invokevirtual 168, 3) := by decide +kernel
theorem dX9_names_18 : decode cX9_names 18 = .ok (.ifCond .ne 5, 3) := by decide +kernel
theorem dX9_names_21 : decode cX9_names 21 = .ok (.iconst (-1), 1) := by decide +kernel
theorem dX9_names_22 : decode cX9_names 22 = .ok (.ireturn, 1) := by decide +kernel
theorem dX9_names_23 : decode cX9_names 23 = .ok (.aload_n 0, 1) := by decide +kernel
theorem dX9_names_24 : decode cX9_names 24 = .ok (.invokevirtual 204, 3) := by decide +kernel
theorem dX9_names_27 : decode cX9_names 27 = .ok (.aload_n 0, 1) := by decide +kernel
theorem dX9_names_28 : decode cX9_names 28 = .ok (.getfield 28, 3) := by decide +kernel
theorem dX9_names_31 : decode cX9_names 31 = .ok (.iconst 0, 1) := by decide +kernel
theorem dX9_names_32 : decode cX9_names 32 = .ok (.iload_n 1, 1) := by decide +kernel
theorem dX9_names_33 : decode cX9_names 33 = .ok (.iadd, 1) := by decide +kernel
theorem dX9_names_34 : decode cX9_names 34 = .ok (.iaload, 1) := by decide +kernel
theorem dX9_names_35 : decode cX9_names 35 = .ok (.istore_n 3, 1) := by decide +kernel
theorem dX9_names_36 : decode cX9_names 36 = .ok (.aload_n 0, 1) := by decide +kernel
theorem dX9_names_37 : decode cX9_names 37 = .ok (.getfield 28, 3) := by decide +kernel
theorem dX9_names_40 : decode cX9_names 40 = .ok (.iconst 0, 1) := by decide +kernel
theorem dX9_names_41 : decode cX9_names 41 = .ok (.iload_n 1, 1) := by decide +kernel
theorem dX9_names_42 : decode cX9_names 42 = .ok (.iadd, 1) := by decide +kernel
theorem dX9_names_43 : decode cX9_names 43 = .ok (.iload_n 2, 1) := by decide +kernel
theorem dX9_names_44 : decode cX9_names 44 = .ok (.iastore, 1) := by decide +kernel
theorem dX9_names_45 : decode cX9_names 45 = .ok (.iload_n 3, 1) := by decide +kernel
theorem dX9_names_46 : decode cX9_names 46 = .ok (.ireturn, 1) := by decide +kernel
theorem dX9_laws_0 : decode cX9_laws 0 = .ok (.aload_n 0, 1) := by decide +kernel
theorem dX9_laws_1 : decode cX9_laws 1 = .ok (.iconst 0, 1) := by decide +kernel
theorem dX9_laws_2 : decode cX9_laws 2 = .ok (.putfield 62, 3) := by decide +kernel
theorem dX9_laws_5 : decode cX9_laws 5 = .ok (.iload_n 1, 1) := by decide +kernel
theorem dX9_laws_6 : decode cX9_laws 6 = .ok (.iconst 0, 1) := by decide +kernel
theorem dX9_laws_7 : decode cX9_laws 7 = .ok (.bipush 15, 2) := by decide +kernel
theorem dX9_laws_9 : decode cX9_laws 9 = .ok (.invokestatic 66, 3) := by decide +kernel
theorem dX9_laws_12 : decode cX9_laws 12 = .ok (.ifCond .ne 5, 3) := by decide +kernel
theorem dX9_laws_15 : decode cX9_laws 15 = .ok (.iconst (-1), 1) := by decide +kernel
theorem dX9_laws_16 : decode cX9_laws 16 = .ok (.ireturn, 1) := by decide +kernel
theorem dX9_laws_17 : decode cX9_laws 17 = .ok (.aload_n 0, 1) := by decide +kernel
theorem dX9_laws_18 : decode cX9_laws 18 = .ok (.invokevirtual 204, 3) := by decide +kernel
theorem dX9_laws_21 : decode cX9_laws 21 = .ok (.aload_n 0, 1) := by decide +kernel
theorem dX9_laws_22 : decode cX9_laws 22 = .ok (.getfield 28, 3) := by decide +kernel
theorem dX9_laws_25 : decode cX9_laws 25 = .ok (.bipush 22, 2) := by decide +kernel
theorem dX9_laws_27 : decode cX9_laws 27 = .ok (.iaload, 1) := by decide +kernel
theorem dX9_laws_28 : decode cX9_laws 28 = .ok (.istore_n 2, 1) := by decide +kernel
theorem dX9_laws_29 : decode cX9_laws 29 = .ok (.aload_n 0, 1) := by decide +kernel
theorem dX9_laws_30 : decode cX9_laws 30 = .ok (.getfield 28, 3) := by decide +kernel
theorem dX9_laws_33 : decode cX9_laws 33 = .ok (.bipush 22, 2) := by decide +kernel
theorem dX9_laws_35 : decode cX9_laws 35 = .ok (.iload_n 1, 1) := by decide +kernel
theorem dX9_laws_36 : decode cX9_laws 36 = .ok (.iastore, 1) := by decide +kernel
theorem dX9_laws_37 : decode cX9_laws 37 = .ok (.iload_n 2, 1) := by decide +kernel
theorem dX9_laws_38 : decode cX9_laws 38 = .ok (.ireturn, 1) := by decide +kernel
theorem dX9_year_0 : decode cX9_year 0 = .ok (.aload_n 0, 1) := by decide +kernel
theorem dX9_year_1 : decode cX9_year 1 = .ok (.iconst 0, 1) := by decide +kernel
theorem dX9_year_2 : decode cX9_year 2 = .ok (.putfield 62, 3) := by decide +kernel
theorem dX9_year_5 : decode cX9_year 5 = .ok (.aload_n 0, 1) := by decide +kernel
theorem dX9_year_6 : decode cX9_year 6 = .ok (.getfield 28, 3) := by decide +kernel
theorem dX9_year_9 : decode cX9_year 9 = .ok (.bipush 24, 2) := by decide +kernel
theorem dX9_year_11 : decode cX9_year 11 = .ok (.iaload, 1) := by decide +kernel
theorem dX9_year_12 : decode cX9_year 12 = .ok (.sipush 999, 3) := by decide +kernel
theorem dX9_year_15 : decode cX9_year 15 = .ok (.if_icmp .ne 6, 3) := by decide +kernel
theorem dX9_year_18 : decode cX9_year 18 = .ok (.bipush (-2), 2) := by decide +kernel
theorem dX9_year_20 : decode cX9_year 20 = .ok (.ireturn, 1) := by decide +kernel
theorem dX9_year_21 : decode cX9_year 21 = .ok (.aload_n 0, 1) := by decide +kernel
theorem dX9_year_22 : decode cX9_year 22 = .ok (.invokevirtual 204, 3) := by decide +kernel
theorem dX9_year_25 : decode cX9_year 25 = .ok (.iconst 0, 1) := by decide +kernel
theorem dX9_year_26 : decode cX9_year 26 = .ok (.istore_n 1, 1) := by decide +kernel
theorem dX9_year_27 : decode cX9_year 27 = .ok (.iconst 0, 1) := by decide +kernel
theorem dX9_year_28 : decode cX9_year 28 = .ok (.istore_n 2, 1) := by decide +kernel
theorem dX9_year_29 : decode cX9_year 29 = .ok (.iload_n 2, 1) := by decide +kernel
theorem dX9_year_30 : decode cX9_year 30 = .ok (.aload_n 0, 1) := by decide +kernel
theorem dX9_year_31 : decode cX9_year 31 = .ok (.getfield 13, 3) := by decide +kernel
theorem dX9_year_34 : decode cX9_year 34 = .ok (.iconst 1, 1) := by decide +kernel
theorem dX9_year_35 : decode cX9_year 35 = .ok (.iaload, 1) := by decide +kernel
theorem dX9_year_36 : decode cX9_year 36 = .ok (.if_icmp .ge 66, 3) := by decide +kernel
theorem dX9_year_39 : decode cX9_year 39 = .ok (.aload_n 0, 1) := by decide +kernel
theorem dX9_year_40 : decode cX9_year 40 = .ok (.getfield 56, 3) := by decide +kernel
theorem dX9_year_43 : decode cX9_year 43 = .ok (.iload_n 2, 1) := by decide +kernel
theorem dX9_year_44 : decode cX9_year 44 = .ok (.aload_n 0, 1) := by decide +kernel
theorem dX9_year_45 : decode cX9_year 45 = .ok (.aload_n 0, 1) := by decide +kernel
theorem dX9_year_46 : decode cX9_year 46 = .ok (.getfield 28, 3) := by decide +kernel
theorem dX9_year_49 : decode cX9_year 49 = .ok (.iload_n 2, 1) := by decide +kernel
theorem dX9_year_50 : decode cX9_year 50 = .ok (.invokevirtual 162, 3) := by decide +kernel
theorem dX9_year_53 : decode cX9_year 53 = .ok (.aload_n 0, 1) := by decide +kernel
theorem dX9_year_54 : decode cX9_year 54 = .ok (.getfield 28, 3) := by decide +kernel
theorem dX9_year_57 : decode cX9_year 57 = .ok (.bipush 7, 2) := by decide +kernel
theorem dX9_year_59 : decode cX9_year 59 = .ok (.iload_n 2, 1) := by decide +kernel
theorem dX9_year_60 : decode cX9_year 60 = .ok (.iadd, 1) := by decide +kernel
theorem dX9_year_61 : decode cX9_year 61 = .ok (.iaload, 1) := by decide +kernel
theorem dX9_year_62 : decode cX9_year 62 = .ok (.if_icmp .ge 15, 3) := by decide +kernel
theorem dX9_year_65 : decode cX9_year 65 = .ok (.aload_n 0, 1) := by decide +kernel
theorem dX9_year_66 : decode cX9_year 66 = .ok (.aload_n 0, 1) := by decide +kernel
theorem dX9_year_67 : decode cX9_year 67 = .ok (.getfield 28, 3) := by decide +kernel
theorem dX9_year_70 : decode cX9_year 70 = .ok (.iload_n 2, 1) := by decide +kernel
theorem dX9_year_71 : decode cX9_year 71 = .ok (.invokevirtual 162, 3) := by decide +kernel
theorem dX9_year_74 : decode cX9_year 74 = .ok (.goto 12, 3) := by decide +kernel
theorem dX9_year_77 : decode cX9_year 77 = .ok (.aload_n 0, 1) := by decide +kernel
theorem dX9_year_78 : decode cX9_year 78 = .ok (.getfield 28, 3) := by decide +kernel
theorem dX9_year_81 : decode cX9_year 81 = .ok (.bipush 7, 2) := by decide +kernel
theorem dX9_year_83 : decode cX9_year 83 = .ok (.iload_n 2, 1) := by decide +kernel
theorem dX9_year_84 : decode cX9_year 84 = .ok (.iadd, 1) := by decide +kernel
theorem dX9_year_85 : decode cX9_year 85 = .ok (.iaload, 1) := by decide +kernel
theorem dX9_year_86 : decode cX9_year 86 = .ok (.iastore, 1) := by decide +kernel
theorem dX9_year_87 : decode cX9_year 87 = .ok (.iload_n 1, 1) := by decide +kernel
theorem dX9_year_88 : decode cX9_year 88 = .ok (.aload_n 0, 1) := by decide +kernel
theorem dX9_year_89 : decode cX9_year 89 = .ok (.getfield 56, 3) := by decide +kernel
theorem dX9_year_92 : decode cX9_year 92 = .ok (.iload_n 2, 1) := by decide +kernel
theorem dX9_year_93 : decode cX9_year 93 = .ok (.iaload, 1) := by decide +kernel
theorem dX9_year_94 : decode cX9_year 94 = .ok (.iadd, 1) := by decide +kernel
theorem dX9_year_95 : decode cX9_year 95 = .ok (.istore_n 1, 1) := by decide +kernel
theorem dX9_year_96 : decode cX9_year 96 = .ok (.iinc 2 1, 3) := by decide +kernel
theorem dX9_year_99 : decode cX9_year 99 = .ok (.goto (-70), 3) := by decide +kernel
theorem dX9_year_102 : decode cX9_year 102 = .ok (.iconst 0, 1) := by decide +kernel
theorem dX9_year_103 : decode cX9_year 103 = .ok (.istore_n 2, 1) := by decide +kernel
theorem dX9_year_104 : decode cX9_year 104 = .ok (.iload_n 2, 1) := by decide +kernel
theorem dX9_year_105 : decode cX9_year 105 = .ok (.aload_n 0, 1) := by decide +kernel
theorem dX9_year_106 : decode cX9_year 106 = .ok (.getfield 13, 3) := by decide +kernel
theorem dX9_year_109 : decode cX9_year 109 = .ok (.iconst 1, 1) := by decide +kernel
theorem dX9_year_110 : decode cX9_year 110 = .ok (.iaload, 1) := by decide +kernel
theorem dX9_year_111 : decode cX9_year 111 = .ok (.if_icmp .ge 27, 3) := by decide +kernel
theorem dX9_year_114 : decode cX9_year 114 = .ok (.aload_n 0, 1) := by decide +kernel
theorem dX9_year_115 : decode cX9_year 115 = .ok (.getfield 28, 3) := by decide +kernel
theorem dX9_year_118 : decode cX9_year 118 = .ok (.bipush 7, 2) := by decide +kernel
theorem dX9_year_120 : decode cX9_year 120 = .ok (.iload_n 2, 1) := by decide +kernel
theorem dX9_year_121 : decode cX9_year 121 = .ok (.iadd, 1) := by decide +kernel
theorem dX9_year_122 : decode cX9_year 122 = .ok (.dup2, 1) := by decide +kernel
theorem dX9_year_123 : decode cX9_year 123 = .ok (.iaload, 1) := by decide +kernel
theorem dX9_year_124 : decode cX9_year 124 = .ok (.aload_n 0, 1) := by decide +kernel
theorem dX9_year_125 : decode cX9_year 125 = .ok (.getfield 56, 3) := by decide +kernel
theorem dX9_year_128 : decode cX9_year 128 = .ok (.iload_n 2, 1) := by decide +kernel
theorem dX9_year_129 : decode cX9_year 129 = .ok (.iaload, 1) := by decide +kernel
theorem dX9_year_130 : decode cX9_year 130 = .ok (.isub, 1) := by decide +kernel
theorem dX9_year_131 : decode cX9_year 131 = .ok (.iastore, 1) := by decide +kernel
theorem dX9_year_132 : decode cX9_year 132 = .ok (.iinc 2 1, 3) := by decide +kernel
theorem dX9_year_135 : decode cX9_year 135 = .ok (.goto (-31), 3) := by decide +kernel
theorem dX9_year_138 : decode cX9_year 138 = .ok (.aload_n 0, 1) := by decide +kernel
theorem dX9_year_139 : decode cX9_year 139 = .ok (.getfield 28, 3) := by decide +kernel
theorem dX9_year_142 : decode cX9_year 142 = .ok (.bipush 23, 2) := by decide +kernel
theorem dX9_year_144 : decode cX9_year 144 = .ok (.aload_n 0, 1) := by decide +kernel
theorem dX9_year_145 : decode cX9_year 145 = .ok (.getfield 28, 3) := by decide +kernel
theorem dX9_year_148 : decode cX9_year 148 = .ok (.bipush 23, 2) := by decide +kernel
theorem dX9_year_150 : decode cX9_year 150 = .ok (.iaload, 1) := by decide +kernel
theorem dX9_year_151 : decode cX9_year 151 = .ok (.iload_n 1, 1) := by decide +kernel
theorem dX9_year_152 : decode cX9_year 152 = .ok (.iadd, 1) := by decide +kernel
theorem dX9_year_153 : decode cX9_year 153 = .ok (.ldc 207, 2) := by decide +kernel
theorem dX9_year_155 : decode cX9_year 155 = .ok (.if_icmp .le 8, 3) := by decide +kernel
theorem dX9_year_158 : decode cX9_year 158 = .ok (.ldc 207, 2) := by decide +kernel
theorem dX9_year_160 : decode cX9_year 160 = .ok (.goto 12, 3) := by decide +kernel
theorem dX9_year_163 : decode cX9_year 163 = .ok (.aload_n 0, 1) := by decide +kernel
theorem dX9_year_164 : decode cX9_year 164 = .ok (.getfield 28, 3) := by decide +kernel
theorem dX9_year_167 : decode cX9_year 167 = .ok (.bipush 23, 2) := by decide +kernel
theorem dX9_year_169 : decode cX9_year 169 = .ok (.iaload, 1) := by decide +kernel
theorem dX9_year_170 : decode cX9_year 170 = .ok (.iload_n 1, 1) := by decide +kernel
theorem dX9_year_171 : decode cX9_year 171 = .ok (.iadd, 1) := by decide +kernel
theorem dX9_year_172 : decode cX9_year 172 = .ok (.iastore, 1) := by decide +kernel
theorem dX9_year_173 : decode cX9_year 173 = .ok (.aload_n 0, 1) := by decide +kernel
theorem dX9_year_174 : decode cX9_year 174 = .ok (.getfield 28, 3) := by decide +kernel
theorem dX9_year_177 : decode cX9_year 177 = .ok (.bipush 24, 2) := by decide +kernel
theorem dX9_year_179 : decode cX9_year 179 = .ok (.dup2, 1) := by decide +kernel
theorem dX9_year_180 : decode cX9_year 180 = .ok (.iaload, 1) := by decide +kernel
theorem dX9_year_181 : decode cX9_year 181 = .ok (.iconst 1, 1) := by decide +kernel
theorem dX9_year_182 : decode cX9_year 182 = .ok (.iadd, 1) := by decide +kernel
theorem dX9_year_183 : decode cX9_year 183 = .ok (.iastore, 1) := by decide +kernel
theorem dX9_year_184 : decode cX9_year 184 = .ok (.iload_n 1, 1) := by decide +kernel
theorem dX9_year_185 : decode cX9_year 185 = .ok (.ireturn, 1) := by decide +kernel
theorem dX9_undo_0 : decode cX9_undo 0 = .ok (.aload_n 0, 1) := by decide +kernel
theorem dX9_undo_1 : decode cX9_undo 1 = .ok (.iconst 0, 1) := by decide +kernel
theorem dX9_undo_2 : decode cX9_undo 2 = .ok (.putfield 62, 3) := by decide +kernel
theorem dX9_undo_5 : decode cX9_undo 5 = .ok (.aload_n 0, 1) := by decide +kernel
theorem dX9_undo_6 : decode cX9_undo 6 = .ok (.getfield 128, 3) := by decide +kernel
theorem dX9_undo_9 : decode cX9_undo 9 = .ok (.ifCond .ne 6, 3) := by decide +kernel
theorem dX9_undo_12 : decode cX9_undo 12 = .ok (.bipush (-2), 2) := by decide +kernel
theorem dX9_undo_14 : decode cX9_undo 14 = .ok (.ireturn, 1) := by decide +kernel
theorem dX9_undo_15 : decode cX9_undo 15 = .ok (.aload_n 0, 1) := by decide +kernel
theorem dX9_undo_16 : decode cX9_undo 16 = .ok (.dup, 1) := by decide +kernel
theorem dX9_undo_17 : decode cX9_undo 17 = .ok (.getfield 128, 3) := by decide +kernel
theorem dX9_undo_20 : decode cX9_undo 20 = .ok (.iconst 1, 1) := by decide +kernel
theorem dX9_undo_21 : decode cX9_undo 21 = .ok (.isub, 1) := by decide +kernel
theorem dX9_undo_22 : decode cX9_undo 22 = .ok (.putfield 128, 3) := by decide +kernel
theorem dX9_undo_25 : decode cX9_undo 25 = .ok (.iconst 0, 1) := by decide +kernel
theorem dX9_undo_26 : decode cX9_undo 26 = .ok (.istore_n 1, 1) := by decide +kernel
theorem dX9_undo_27 : decode cX9_undo 27 = .ok (.iload_n 1, 1) := by decide +kernel
theorem dX9_undo_28 : decode cX9_undo 28 = .ok (.bipush 25, 2) := by decide +kernel
theorem dX9_undo_30 : decode cX9_undo 30 = .ok (.if_icmp .ge 29, 3) := by decide +kernel
theorem dX9_undo_33 : decode cX9_undo 33 = .ok (.aload_n 0, 1) := by decide +kernel
theorem dX9_undo_34 : decode cX9_undo 34 = .ok (.getfield 28, 3) := by decide +kernel
theorem dX9_undo_37 : decode cX9_undo 37 = .ok (.iload_n 1, 1) := by decide +kernel
theorem dX9_undo_38 : decode cX9_undo 38 = .ok (.aload_n 0, 1) := by decide +kernel
theorem dX9_undo_39 : decode cX9_undo 39 = .ok (.getfield 41, 3) := by decide +kernel
theorem dX9_undo_42 : decode cX9_undo 42 = .ok (.bipush 25, 2) := by decide +kernel
theorem dX9_undo_44 : decode cX9_undo 44 = .ok (.aload_n 0, 1) := by decide +kernel
theorem dX9_undo_45 : decode cX9_undo 45 = .ok (.getfield 128, 3) := by decide +kernel
theorem dX9_undo_48 : decode cX9_undo 48 = .ok (.imul, 1) := by decide +kernel
theorem dX9_undo_49 : decode cX9_undo 49 = .ok (.iload_n 1, 1) := by decide +kernel
theorem dX9_undo_50 : decode cX9_undo 50 = .ok (.iadd, 1) := by decide +kernel
theorem dX9_undo_51 : decode cX9_undo 51 = .ok (.iaload, 1) := by decide +kernel
theorem dX9_undo_52 : decode cX9_undo 52 = .ok (.iastore, 1) := by decide +kernel
theorem dX9_undo_53 : decode cX9_undo 53 = .ok (.iinc 1 1, 3) := by decide +kernel
theorem dX9_undo_56 : decode cX9_undo 56 = .ok (.goto (-29), 3) := by decide +kernel
theorem dX9_undo_59 : decode cX9_undo 59 = .ok (.aload_n 0, 1) := by decide +kernel
theorem dX9_undo_60 : decode cX9_undo 60 = .ok (.getfield 128, 3) := by decide +kernel
theorem dX9_undo_63 : decode cX9_undo 63 = .ok (.ireturn, 1) := by decide +kernel
theorem dX9_asNow_0 : decode cX9_asNow 0 = .ok (.iconst 0, 1) := by decide +kernel
theorem dX9_asNow_1 : decode cX9_asNow 1 = .ok (.istore_n 1, 1) := by decide +kernel
theorem dX9_asNow_2 : decode cX9_asNow 2 = .ok (.iload_n 1, 1) := by decide +kernel
theorem dX9_asNow_3 : decode cX9_asNow 3 = .ok (.bipush 25, 2) := by decide +kernel
theorem dX9_asNow_5 : decode cX9_asNow 5 = .ok (.if_icmp .ge 21, 3) := by decide +kernel
theorem dX9_asNow_8 : decode cX9_asNow 8 = .ok (.aload_n 0, 1) := by decide +kernel
theorem dX9_asNow_9 : decode cX9_asNow 9 = .ok (.getfield 31, 3) := by decide +kernel
theorem dX9_asNow_12 : decode cX9_asNow 12 = .ok (.iload_n 1, 1) := by decide +kernel
theorem dX9_asNow_13 : decode cX9_asNow 13 = .ok (.aload_n 0, 1) := by decide +kernel
theorem dX9_asNow_14 : decode cX9_asNow 14 = .ok (.getfield 28, 3) := by decide +kernel
theorem dX9_asNow_17 : decode cX9_asNow 17 = .ok (.iload_n 1, 1) := by decide +kernel
theorem dX9_asNow_18 : decode cX9_asNow 18 = .ok (.iaload, 1) := by decide +kernel
theorem dX9_asNow_19 : decode cX9_asNow 19 = .ok (.iastore, 1) := by decide +kernel
theorem dX9_asNow_20 : decode cX9_asNow 20 = .ok (.iinc 1 1, 3) := by decide +kernel
theorem dX9_asNow_23 : decode cX9_asNow 23 = .ok (.goto (-21), 3) := by decide +kernel
theorem dX9_asNow_26 : decode cX9_asNow 26 = .ok (.return_, 1) := by decide +kernel
theorem dX9_renamedBy_0 : decode cX9_renamedBy 0 = .ok (.iload_n 1, 1) := by decide +kernel
theorem dX9_renamedBy_1 : decode cX9_renamedBy 1 = .ok (.istore_n 2, 1) := by decide +kernel
theorem dX9_renamedBy_2 : decode cX9_renamedBy 2 = .ok (.iconst 0, 1) := by decide +kernel
theorem dX9_renamedBy_3 : decode cX9_renamedBy 3 = .ok (.istore_n 3, 1) := by decide +kernel
theorem dX9_renamedBy_4 : decode cX9_renamedBy 4 = .ok (.aload_n 0, 1) := by decide +kernel
theorem dX9_renamedBy_5 : decode cX9_renamedBy 5 = .ok (.getfield 13, 3) := by decide +kernel
theorem dX9_renamedBy_8 : decode cX9_renamedBy 8 = .ok (.iconst 1, 1) := by decide +kernel
theorem dX9_renamedBy_9 : decode cX9_renamedBy 9 = .ok (.iaload, 1) := by decide +kernel
theorem dX9_renamedBy_10 : decode cX9_renamedBy 10 = .ok (.iconst 1, 1) := by decide +kernel
theorem dX9_renamedBy_11 : decode cX9_renamedBy 11 = .ok (.isub, 1) := by decide +kernel
theorem dX9_renamedBy_12 : decode cX9_renamedBy 12 = .ok (.istore 4, 2) := by decide +kernel
theorem dX9_renamedBy_14 : decode cX9_renamedBy 14 = .ok (.iload 4, 2) := by decide +kernel
theorem dX9_renamedBy_16 : decode cX9_renamedBy 16 = .ok (.ifCond .lt 64, 3) := by decide +kernel
theorem dX9_renamedBy_19 : decode cX9_renamedBy 19 = .ok (.aload_n 0, 1) := by decide +kernel
theorem dX9_renamedBy_20 : decode cX9_renamedBy 20 = .ok (.getfield 31, 3) := by decide +kernel
theorem dX9_renamedBy_23 : decode cX9_renamedBy 23 = .ok (.iconst 0, 1) := by decide +kernel
theorem dX9_renamedBy_24 : decode cX9_renamedBy 24 = .ok (.iload 4, 2) := by decide +kernel
theorem dX9_renamedBy_26 : decode cX9_renamedBy 26 = .ok (.iadd, 1) := by decide +kernel
theorem dX9_renamedBy_27 : decode cX9_renamedBy 27 = .ok (.iload_n 2, 1) := by decide +kernel
theorem dX9_renamedBy_28 : decode cX9_renamedBy 28 = .ok (.aload_n 0, 1) := by decide +kernel
theorem dX9_renamedBy_29 : decode cX9_renamedBy 29 = .ok (.getfield 13, 3) := by decide +kernel
theorem dX9_renamedBy_32 : decode cX9_renamedBy 32 = .ok (.iconst 0, 1) := by decide +kernel
theorem dX9_renamedBy_33 : decode cX9_renamedBy 33 = .ok (.iaload, 1) := by decide +kernel
theorem dX9_renamedBy_34 : decode cX9_renamedBy 34 = .ok (.irem, 1) := by decide +kernel
theorem dX9_renamedBy_35 : decode cX9_renamedBy 35 = .ok (.iastore, 1) := by decide +kernel
theorem dX9_renamedBy_36 : decode cX9_renamedBy 36 = .ok (.iload_n 2, 1) := by decide +kernel
theorem dX9_renamedBy_37 : decode cX9_renamedBy 37 = .ok (.aload_n 0, 1) := by decide +kernel
theorem dX9_renamedBy_38 : decode cX9_renamedBy 38 = .ok (.getfield 13, 3) := by decide +kernel
theorem dX9_renamedBy_41 : decode cX9_renamedBy 41 = .ok (.iconst 0, 1) := by decide +kernel
theorem dX9_renamedBy_42 : decode cX9_renamedBy 42 = .ok (.iaload, 1) := by decide +kernel
theorem dX9_renamedBy_43 : decode cX9_renamedBy 43 = .ok (.idiv, 1) := by decide +kernel
theorem dX9_renamedBy_44 : decode cX9_renamedBy 44 = .ok (.istore_n 2, 1) := by decide +kernel
theorem dX9_renamedBy_45 : decode cX9_renamedBy 45 = .ok (.iload_n 3, 1) := by decide +kernel
theorem dX9_renamedBy_46 : decode cX9_renamedBy 46 = .ok (.aload_n 0, 1) := by decide +kernel
theorem dX9_renamedBy_47 : decode cX9_renamedBy 47 = .ok (.getfield 31, 3) := by decide +kernel
theorem dX9_renamedBy_50 : decode cX9_renamedBy 50 = .ok (.iconst 0, 1) := by decide +kernel
theorem dX9_renamedBy_51 : decode cX9_renamedBy 51 = .ok (.iload 4, 2) := by decide +kernel
theorem dX9_renamedBy_53 : decode cX9_renamedBy 53 = .ok (.iadd, 1) := by decide +kernel
theorem dX9_renamedBy_54 : decode cX9_renamedBy 54 = .ok (.iaload, 1) := by decide +kernel
theorem dX9_renamedBy_55 : decode cX9_renamedBy 55 = .ok (.aload_n 0, 1) := by decide +kernel
theorem dX9_renamedBy_56 : decode cX9_renamedBy 56 = .ok (.getfield 28, 3) := by decide +kernel
theorem dX9_renamedBy_59 : decode cX9_renamedBy 59 = .ok (.iconst 0, 1) := by decide +kernel
theorem dX9_renamedBy_60 : decode cX9_renamedBy 60 = .ok (.iload 4, 2) := by decide +kernel
theorem dX9_renamedBy_62 : decode cX9_renamedBy 62 = .ok (.iadd, 1) := by decide +kernel
theorem dX9_renamedBy_63 : decode cX9_renamedBy 63 = .ok (.iaload, 1) := by decide +kernel
theorem dX9_renamedBy_64 : decode cX9_renamedBy 64 = .ok (.if_icmp .eq 7, 3) := by decide +kernel
theorem dX9_renamedBy_67 : decode cX9_renamedBy 67 = .ok (.iconst 1, 1) := by decide +kernel
theorem dX9_renamedBy_68 : decode cX9_renamedBy 68 = .ok (.goto 4, 3) := by decide +kernel
theorem dX9_renamedBy_71 : decode cX9_renamedBy 71 = .ok (.iconst 0, 1) := by decide +kernel
theorem dX9_renamedBy_72 : decode cX9_renamedBy 72 = .ok (.iadd, 1) := by decide +kernel
theorem dX9_renamedBy_73 : decode cX9_renamedBy 73 = .ok (.istore_n 3, 1) := by decide +kernel
theorem dX9_renamedBy_74 : decode cX9_renamedBy 74 = .ok (.iinc 4 (-1), 3) := by decide +kernel
theorem dX9_renamedBy_77 : decode cX9_renamedBy 77 = .ok (.goto (-63), 3) := by decide +kernel
theorem dX9_renamedBy_80 : decode cX9_renamedBy 80 = .ok (.iconst 0, 1) := by decide +kernel
theorem dX9_renamedBy_81 : decode cX9_renamedBy 81 = .ok (.istore 4, 2) := by decide +kernel
theorem dX9_renamedBy_83 : decode cX9_renamedBy 83 = .ok (.iload 4, 2) := by decide +kernel
theorem dX9_renamedBy_85 : decode cX9_renamedBy 85 = .ok (.aload_n 0, 1) := by decide +kernel
theorem dX9_renamedBy_86 : decode cX9_renamedBy 86 = .ok (.getfield 13, 3) := by decide +kernel
theorem dX9_renamedBy_89 : decode cX9_renamedBy 89 = .ok (.iconst 1, 1) := by decide +kernel
theorem dX9_renamedBy_90 : decode cX9_renamedBy 90 = .ok (.iaload, 1) := by decide +kernel
theorem dX9_renamedBy_91 : decode cX9_renamedBy 91 = .ok (.if_icmp .ge 65, 3) := by decide +kernel
theorem dX9_renamedBy_94 : decode cX9_renamedBy 94 = .ok (.iconst 0, 1) := by decide +kernel
theorem dX9_renamedBy_95 : decode cX9_renamedBy 95 = .ok (.istore 5, 2) := by decide +kernel
theorem dX9_renamedBy_97 : decode cX9_renamedBy 97 = .ok (.iload 5, 2) := by decide +kernel
theorem dX9_renamedBy_99 : decode cX9_renamedBy 99 = .ok (.iload 4, 2) := by decide +kernel
theorem dX9_renamedBy_101 : decode cX9_renamedBy 101 = .ok (.if_icmp .ge 49, 3) := by decide +kernel
theorem dX9_renamedBy_104 : decode cX9_renamedBy 104 = .ok (.aload_n 0, 1) := by decide +kernel
theorem dX9_renamedBy_105 : decode cX9_renamedBy 105 = .ok (.getfield 25, 3) := by decide +kernel
theorem dX9_renamedBy_108 : decode cX9_renamedBy 108 = .ok (.iload 4, 2) := by decide +kernel
theorem dX9_renamedBy_110 : decode cX9_renamedBy 110 = .ok (.iaload, 1) := by decide +kernel
theorem dX9_renamedBy_111 : decode cX9_renamedBy 111 = .ok (.iload 5, 2) := by decide +kernel
theorem dX9_renamedBy_113 : decode cX9_renamedBy 113 = .ok (.ishr, 1) := by decide +kernel
theorem dX9_renamedBy_114 : decode cX9_renamedBy 114 = .ok (.iconst 1, 1) := by decide +kernel
theorem dX9_renamedBy_115 : decode cX9_renamedBy 115 = .ok (.iand, 1) := by decide +kernel
theorem dX9_renamedBy_116 : decode cX9_renamedBy 116 = .ok (.iconst 1, 1) := by decide +kernel
theorem dX9_renamedBy_117 : decode cX9_renamedBy 117 = .ok (.if_icmp .ne 27, 3) := by decide +kernel
theorem dX9_renamedBy_120 : decode cX9_renamedBy 120 = .ok (.aload_n 0, 1) := by decide +kernel
theorem dX9_renamedBy_121 : decode cX9_renamedBy 121 = .ok (.getfield 31, 3) := by decide +kernel
theorem dX9_renamedBy_124 : decode cX9_renamedBy 124 = .ok (.iconst 0, 1) := by decide +kernel
theorem dX9_renamedBy_125 : decode cX9_renamedBy 125 = .ok (.iload 4, 2) := by decide +kernel
theorem dX9_renamedBy_127 : decode cX9_renamedBy 127 = .ok (.iadd, 1) := by decide +kernel
theorem dX9_renamedBy_128 : decode cX9_renamedBy 128 = .ok (.iaload, 1) := by decide +kernel
theorem dX9_renamedBy_129 : decode cX9_renamedBy 129 = .ok (.aload_n 0, 1) := by decide +kernel
theorem dX9_renamedBy_130 : decode cX9_renamedBy 130 = .ok (.getfield 31, 3) := by decide +kernel
theorem dX9_renamedBy_133 : decode cX9_renamedBy 133 = .ok (.iconst 0, 1) := by decide +kernel
theorem dX9_renamedBy_134 : decode cX9_renamedBy 134 = .ok (.iload 5, 2) := by decide +kernel
theorem dX9_renamedBy_136 : decode cX9_renamedBy 136 = .ok (.iadd, 1) := by decide +kernel
theorem dX9_renamedBy_137 : decode cX9_renamedBy 137 = .ok (.iaload, 1) := by decide +kernel
theorem dX9_renamedBy_138 : decode cX9_renamedBy 138 = .ok (.if_icmp .ne 6, 3) := by decide +kernel
theorem dX9_renamedBy_141 : decode cX9_renamedBy 141 = .ok (.bipush (-9), 2) := by decide +kernel
theorem dX9_renamedBy_143 : decode cX9_renamedBy 143 = .ok (.ireturn, 1) := by decide +kernel
theorem dX9_renamedBy_144 : decode cX9_renamedBy 144 = .ok (.iinc 5 1, 3) := by decide +kernel
theorem dX9_renamedBy_147 : decode cX9_renamedBy 147 = .ok (.goto (-50), 3) := by decide +kernel
theorem dX9_renamedBy_150 : decode cX9_renamedBy 150 = .ok (.iinc 4 1, 3) := by decide +kernel
theorem dX9_renamedBy_153 : decode cX9_renamedBy 153 = .ok (.goto (-70), 3) := by decide +kernel
theorem dX9_renamedBy_156 : decode cX9_renamedBy 156 = .ok (.iload_n 3, 1) := by decide +kernel
theorem dX9_renamedBy_157 : decode cX9_renamedBy 157 = .ok (.ireturn, 1) := by decide +kernel
theorem dX9_apart_0 : decode cX9_apart 0 = .ok (.aload_n 0, 1) := by decide +kernel
theorem dX9_apart_1 : decode cX9_apart 1 = .ok (.iconst 0, 1) := by decide +kernel
theorem dX9_apart_2 : decode cX9_apart 2 = .ok (.putfield 62, 3) := by decide +kernel
theorem dX9_apart_5 : decode cX9_apart 5 = .ok (.iload_n 1, 1) := by decide +kernel
theorem dX9_apart_6 : decode cX9_apart 6 = .ok (.iconst (-1), 1) := by decide +kernel
theorem dX9_apart_7 : decode cX9_apart 7 = .ok (.if_icmp .eq 13, 3) := by decide +kernel
theorem dX9_apart_10 : decode cX9_apart 10 = .ok (.aload_n 0, 1) := by decide +kernel
theorem dX9_apart_11 : decode cX9_apart 11 = .ok (.iload_n 1, 1) := by decide +kernel
theorem dX9_apart_12 : decode cX9_apart 12 = .ok (.invokevirtual 153, 3) := by decide +kernel
theorem dX9_apart_15 : decode cX9_apart 15 = .ok (.ifCond .ne 5, 3) := by decide +kernel
theorem dX9_apart_18 : decode cX9_apart 18 = .ok (.iconst (-1), 1) := by decide +kernel
theorem dX9_apart_19 : decode cX9_apart 19 = .ok (.ireturn, 1) := by decide +kernel
theorem dX9_apart_20 : decode cX9_apart 20 = .ok (.iconst 1, 1) := by decide +kernel
theorem dX9_apart_21 : decode cX9_apart 21 = .ok (.istore_n 2, 1) := by decide +kernel
theorem dX9_apart_22 : decode cX9_apart 22 = .ok (.iconst 0, 1) := by decide +kernel
theorem dX9_apart_23 : decode cX9_apart 23 = .ok (.istore_n 3, 1) := by decide +kernel
theorem dX9_apart_24 : decode cX9_apart 24 = .ok (.iload_n 3, 1) := by decide +kernel
theorem dX9_apart_25 : decode cX9_apart 25 = .ok (.aload_n 0, 1) := by decide +kernel
theorem dX9_apart_26 : decode cX9_apart 26 = .ok (.getfield 13, 3) := by decide +kernel
theorem dX9_apart_29 : decode cX9_apart 29 = .ok (.iconst 1, 1) := by decide +kernel
theorem dX9_apart_30 : decode cX9_apart 30 = .ok (.iaload, 1) := by decide +kernel
theorem dX9_apart_31 : decode cX9_apart 31 = .ok (.if_icmp .ge 18, 3) := by decide +kernel
theorem dX9_apart_34 : decode cX9_apart 34 = .ok (.iload_n 2, 1) := by decide +kernel
theorem dX9_apart_35 : decode cX9_apart 35 = .ok (.aload_n 0, 1) := by decide +kernel
theorem dX9_apart_36 : decode cX9_apart 36 = .ok (.getfield 13, 3) := by decide +kernel
theorem dX9_apart_39 : decode cX9_apart 39 = .ok (.iconst 0, 1) := by decide +kernel
theorem dX9_apart_40 : decode cX9_apart 40 = .ok (.iaload, 1) := by decide +kernel
theorem dX9_apart_41 : decode cX9_apart 41 = .ok (.imul, 1) := by decide +kernel
theorem dX9_apart_42 : decode cX9_apart 42 = .ok (.istore_n 2, 1) := by decide +kernel
theorem dX9_apart_43 : decode cX9_apart 43 = .ok (.iinc 3 1, 3) := by decide +kernel
theorem dX9_apart_46 : decode cX9_apart 46 = .ok (.goto (-22), 3) := by decide +kernel
theorem dX9_apart_49 : decode cX9_apart 49 = .ok (.ldc 208, 2) := by decide +kernel
theorem dX9_apart_51 : decode cX9_apart 51 = .ok (.istore_n 3, 1) := by decide +kernel
theorem dX9_apart_52 : decode cX9_apart 52 = .ok (.iconst 0, 1) := by decide +kernel
theorem dX9_apart_53 : decode cX9_apart 53 = .ok (.istore 4, 2) := by decide +kernel
theorem dX9_apart_55 : decode cX9_apart 55 = .ok (.iload 4, 2) := by decide +kernel
theorem dX9_apart_57 : decode cX9_apart 57 = .ok (.iload_n 2, 1) := by decide +kernel
theorem dX9_apart_58 : decode cX9_apart 58 = .ok (.if_icmp .ge 69, 3) := by decide +kernel
theorem dX9_apart_61 : decode cX9_apart 61 = .ok (.aload_n 0, 1) := by decide +kernel
theorem dX9_apart_62 : decode cX9_apart 62 = .ok (.iload 4, 2) := by decide +kernel
theorem dX9_apart_64 : decode cX9_apart 64 = .ok (.invokevirtual 209, 3) := by decide +kernel
theorem dX9_apart_67 : decode cX9_apart 67 = .ok (.istore 5, 2) := by decide +kernel
theorem dX9_apart_69 : decode cX9_apart 69 = .ok (.iload 5, 2) := by decide +kernel
theorem dX9_apart_71 : decode cX9_apart 71 = .ok (.bipush (-9), 2) := by decide +kernel
theorem dX9_apart_73 : decode cX9_apart 73 = .ok (.if_icmp .eq 48, 3) := by decide +kernel
theorem dX9_apart_76 : decode cX9_apart 76 = .ok (.iload 5, 2) := by decide +kernel
theorem dX9_apart_78 : decode cX9_apart 78 = .ok (.iload_n 3, 1) := by decide +kernel
theorem dX9_apart_79 : decode cX9_apart 79 = .ok (.if_icmp .ge 42, 3) := by decide +kernel
theorem dX9_apart_82 : decode cX9_apart 82 = .ok (.iload 5, 2) := by decide +kernel
theorem dX9_apart_84 : decode cX9_apart 84 = .ok (.istore_n 3, 1) := by decide +kernel
theorem dX9_apart_85 : decode cX9_apart 85 = .ok (.iconst 0, 1) := by decide +kernel
theorem dX9_apart_86 : decode cX9_apart 86 = .ok (.istore 6, 2) := by decide +kernel
theorem dX9_apart_88 : decode cX9_apart 88 = .ok (.iload 6, 2) := by decide +kernel
theorem dX9_apart_90 : decode cX9_apart 90 = .ok (.aload_n 0, 1) := by decide +kernel
theorem dX9_apart_91 : decode cX9_apart 91 = .ok (.getfield 13, 3) := by decide +kernel
theorem dX9_apart_94 : decode cX9_apart 94 = .ok (.iconst 1, 1) := by decide +kernel
theorem dX9_apart_95 : decode cX9_apart 95 = .ok (.iaload, 1) := by decide +kernel
theorem dX9_apart_96 : decode cX9_apart 96 = .ok (.if_icmp .ge 25, 3) := by decide +kernel
theorem dX9_apart_99 : decode cX9_apart 99 = .ok (.aload_n 0, 1) := by decide +kernel
theorem dX9_apart_100 : decode cX9_apart 100 = .ok (.getfield 56, 3) := by decide +kernel
theorem dX9_apart_103 : decode cX9_apart 103 = .ok (.iload 6, 2) := by decide +kernel
theorem dX9_apart_105 : decode cX9_apart 105 = .ok (.aload_n 0, 1) := by decide +kernel
theorem dX9_apart_106 : decode cX9_apart 106 = .ok (.getfield 31, 3) := by decide +kernel
theorem dX9_apart_109 : decode cX9_apart 109 = .ok (.iconst 0, 1) := by decide +kernel
theorem dX9_apart_110 : decode cX9_apart 110 = .ok (.iload 6, 2) := by decide +kernel
theorem dX9_apart_112 : decode cX9_apart 112 = .ok (.iadd, 1) := by decide +kernel
theorem dX9_apart_113 : decode cX9_apart 113 = .ok (.iaload, 1) := by decide +kernel
theorem dX9_apart_114 : decode cX9_apart 114 = .ok (.iastore, 1) := by decide +kernel
theorem dX9_apart_115 : decode cX9_apart 115 = .ok (.iinc 6 1, 3) := by decide +kernel
theorem dX9_apart_118 : decode cX9_apart 118 = .ok (.goto (-30), 3) := by decide +kernel
theorem dX9_apart_121 : decode cX9_apart 121 = .ok (.iinc 4 1, 3) := by decide +kernel
theorem dX9_apart_124 : decode cX9_apart 124 = .ok (.goto (-69), 3) := by decide +kernel
theorem dX9_apart_127 : decode cX9_apart 127 = .ok (.iload_n 3, 1) := by decide +kernel
theorem dX9_apart_128 : decode cX9_apart 128 = .ok (.ldc 208, 2) := by decide +kernel
theorem dX9_apart_130 : decode cX9_apart 130 = .ok (.if_icmp .ne 8, 3) := by decide +kernel
theorem dX9_apart_133 : decode cX9_apart 133 = .ok (.bipush (-9), 2) := by decide +kernel
theorem dX9_apart_135 : decode cX9_apart 135 = .ok (.goto 18, 3) := by decide +kernel
theorem dX9_apart_138 : decode cX9_apart 138 = .ok (.iload_n 1, 1) := by decide +kernel
theorem dX9_apart_139 : decode cX9_apart 139 = .ok (.iconst (-1), 1) := by decide +kernel
theorem dX9_apart_140 : decode cX9_apart 140 = .ok (.if_icmp .ne 7, 3) := by decide +kernel
theorem dX9_apart_143 : decode cX9_apart 143 = .ok (.iload_n 3, 1) := by decide +kernel
theorem dX9_apart_144 : decode cX9_apart 144 = .ok (.goto 9, 3) := by decide +kernel
theorem dX9_apart_147 : decode cX9_apart 147 = .ok (.aload_n 0, 1) := by decide +kernel
theorem dX9_apart_148 : decode cX9_apart 148 = .ok (.getfield 56, 3) := by decide +kernel
theorem dX9_apart_151 : decode cX9_apart 151 = .ok (.iload_n 1, 1) := by decide +kernel
theorem dX9_apart_152 : decode cX9_apart 152 = .ok (.iaload, 1) := by decide +kernel
theorem dX9_apart_153 : decode cX9_apart 153 = .ok (.ireturn, 1) := by decide +kernel
theorem dX9_taxBy_0 : decode cX9_taxBy 0 = .ok (.aload_n 0, 1) := by decide +kernel
theorem dX9_taxBy_1 : decode cX9_taxBy 1 = .ok (.invokevirtual 212, 3) := by decide +kernel
theorem dX9_taxBy_4 : decode cX9_taxBy 4 = .ok (.aload_n 0, 1) := by decide +kernel
theorem dX9_taxBy_5 : decode cX9_taxBy 5 = .ok (.getfield 31, 3) := by decide +kernel
theorem dX9_taxBy_8 : decode cX9_taxBy 8 = .ok (.iconst 0, 1) := by decide +kernel
theorem dX9_taxBy_9 : decode cX9_taxBy 9 = .ok (.iload_n 1, 1) := by decide +kernel
theorem dX9_taxBy_10 : decode cX9_taxBy 10 = .ok (.iadd, 1) := by decide +kernel
theorem dX9_taxBy_11 : decode cX9_taxBy 11 = .ok (.iload_n 2, 1) := by decide +kernel
theorem dX9_taxBy_12 : decode cX9_taxBy 12 = .ok (.iastore, 1) := by decide +kernel
theorem dX9_taxBy_13 : decode cX9_taxBy 13 = .ok (.aload_n 0, 1) := by decide +kernel
theorem dX9_taxBy_14 : decode cX9_taxBy 14 = .ok (.aload_n 0, 1) := by decide +kernel
theorem dX9_taxBy_15 : decode cX9_taxBy 15 = .ok (.getfield 31, 3) := by decide +kernel
theorem dX9_taxBy_18 : decode cX9_taxBy 18 = .ok (.iload_n 1, 1) := by decide +kernel
theorem dX9_taxBy_19 : decode cX9_taxBy 19 = .ok (.invokevirtual 162, 3) := by decide +kernel
theorem dX9_taxBy_22 : decode cX9_taxBy 22 = .ok (.ireturn, 1) := by decide +kernel
theorem dX9_cheapestOf_0 : decode cX9_cheapestOf 0 = .ok (.iconst 0, 1) := by decide +kernel
theorem dX9_cheapestOf_1 : decode cX9_cheapestOf 1 = .ok (.istore_n 2, 1) := by decide +kernel
theorem dX9_cheapestOf_2 : decode cX9_cheapestOf 2 = .ok (.iconst 1, 1) := by decide +kernel
theorem dX9_cheapestOf_3 : decode cX9_cheapestOf 3 = .ok (.istore_n 3, 1) := by decide +kernel
theorem dX9_cheapestOf_4 : decode cX9_cheapestOf 4 = .ok (.iload_n 3, 1) := by decide +kernel
theorem dX9_cheapestOf_5 : decode cX9_cheapestOf 5 = .ok (.aload_n 0, 1) := by decide +kernel
theorem dX9_cheapestOf_6 : decode cX9_cheapestOf 6 = .ok (.getfield 13, 3) := by decide +kernel
theorem dX9_cheapestOf_9 : decode cX9_cheapestOf 9 = .ok (.iconst 0, 1) := by decide +kernel
theorem dX9_cheapestOf_10 : decode cX9_cheapestOf 10 = .ok (.iaload, 1) := by decide +kernel
theorem dX9_cheapestOf_11 : decode cX9_cheapestOf 11 = .ok (.if_icmp .ge 30, 3) := by decide +kernel
theorem dX9_cheapestOf_14 : decode cX9_cheapestOf 14 = .ok (.aload_n 0, 1) := by decide +kernel
theorem dX9_cheapestOf_15 : decode cX9_cheapestOf 15 = .ok (.iload_n 1, 1) := by decide +kernel
theorem dX9_cheapestOf_16 : decode cX9_cheapestOf 16 = .ok (.iload_n 3, 1) := by decide +kernel
theorem dX9_cheapestOf_17 : decode cX9_cheapestOf 17 = .ok (.invokevirtual 189, 3) := by decide +kernel
theorem dX9_cheapestOf_20 : decode cX9_cheapestOf 20 = .ok (.aload_n 0, 1) := by decide +kernel
theorem dX9_cheapestOf_21 : decode cX9_cheapestOf 21 = .ok (.iload_n 1, 1) := by decide +kernel
theorem dX9_cheapestOf_22 : decode cX9_cheapestOf 22 = .ok (.iload_n 2, 1) := by decide +kernel
theorem dX9_cheapestOf_23 : decode cX9_cheapestOf 23 = .ok (.invokevirtual 189, 3) := by decide +kernel
theorem dX9_cheapestOf_26 : decode cX9_cheapestOf 26 = .ok (.if_icmp .ge 7, 3) := by decide +kernel
theorem dX9_cheapestOf_29 : decode cX9_cheapestOf 29 = .ok (.iload_n 3, 1) := by decide +kernel
theorem dX9_cheapestOf_30 : decode cX9_cheapestOf 30 = .ok (.goto 4, 3) := by decide +kernel
theorem dX9_cheapestOf_33 : decode cX9_cheapestOf 33 = .ok (.iload_n 2, 1) := by decide +kernel
theorem dX9_cheapestOf_34 : decode cX9_cheapestOf 34 = .ok (.istore_n 2, 1) := by decide +kernel
theorem dX9_cheapestOf_35 : decode cX9_cheapestOf 35 = .ok (.iinc 3 1, 3) := by decide +kernel
theorem dX9_cheapestOf_38 : decode cX9_cheapestOf 38 = .ok (.goto (-34), 3) := by decide +kernel
theorem dX9_cheapestOf_41 : decode cX9_cheapestOf 41 = .ok (.iload_n 2, 1) := by decide +kernel
theorem dX9_cheapestOf_42 : decode cX9_cheapestOf 42 = .ok (.ireturn, 1) := by decide +kernel
theorem dX9_cheapest_0 : decode cX9_cheapest 0 = .ok (.aload_n 0, 1) := by decide +kernel
theorem dX9_cheapest_1 : decode cX9_cheapest 1 = .ok (.iconst 0, 1) := by decide +kernel
theorem dX9_cheapest_2 : decode cX9_cheapest 2 = .ok (.putfield 62, 3) := by decide +kernel
theorem dX9_cheapest_5 : decode cX9_cheapest 5 = .ok (.aload_n 0, 1) := by decide +kernel
theorem dX9_cheapest_6 : decode cX9_cheapest 6 = .ok (.iload_n 1, 1) := by decide +kernel
theorem dX9_cheapest_7 : decode cX9_cheapest 7 = .ok (.invokevirtual 153, 3) := by decide +kernel
theorem dX9_cheapest_10 : decode cX9_cheapest 10 = .ok (.ifCond .eq 11, 3) := by decide +kernel
theorem dX9_cheapest_13 : decode cX9_cheapest 13 = .ok (.aload_n 0, 1) := by decide +kernel
theorem dX9_cheapest_14 : decode cX9_cheapest 14 = .ok (.iload_n 1, 1) := by decide +kernel
theorem dX9_cheapest_15 : decode cX9_cheapest 15 = .ok (.invokevirtual 186, 3) := by decide +kernel
theorem dX9_cheapest_18 : decode cX9_cheapest 18 = .ok (.goto 4, 3) := by decide +kernel
theorem dX9_cheapest_21 : decode cX9_cheapest 21 = .ok (.iconst (-1), 1) := by decide +kernel
theorem dX9_cheapest_22 : decode cX9_cheapest 22 = .ok (.ireturn, 1) := by decide +kernel
theorem dX9_tells_0 : decode cX9_tells 0 = .ok (.aload_n 0, 1) := by decide +kernel
theorem dX9_tells_1 : decode cX9_tells 1 = .ok (.iconst 0, 1) := by decide +kernel
theorem dX9_tells_2 : decode cX9_tells 2 = .ok (.putfield 62, 3) := by decide +kernel
theorem dX9_tells_5 : decode cX9_tells 5 = .ok (.aload_n 0, 1) := by decide +kernel
theorem dX9_tells_6 : decode cX9_tells 6 = .ok (.iload_n 1, 1) := by decide +kernel
theorem dX9_tells_7 : decode cX9_tells 7 = .ok (.invokevirtual 153, 3) := by decide +kernel
theorem dX9_tells_10 : decode cX9_tells 10 = .ok (.ifCond .eq 12, 3) := by decide +kernel
theorem dX9_tells_13 : decode cX9_tells 13 = .ok (.iload_n 2, 1) := by decide +kernel
theorem dX9_tells_14 : decode cX9_tells 14 = .ok (.iconst 0, 1) := by decide +kernel
theorem dX9_tells_15 : decode cX9_tells 15 = .ok (.iconst 1, 1) := by decide +kernel
theorem dX9_tells_16 : decode cX9_tells 16 = .ok (.invokestatic 66, 3) := by decide +kernel
theorem dX9_tells_19 : decode cX9_tells 19 = .ok (.ifCond .ne 5, 3) := by decide +kernel
theorem dX9_tells_22 : decode cX9_tells 22 = .ok (.iconst (-1), 1) := by decide +kernel
theorem dX9_tells_23 : decode cX9_tells 23 = .ok (.ireturn, 1) := by decide +kernel
theorem dX9_tells_24 : decode cX9_tells 24 = .ok (.aload_n 0, 1) := by decide +kernel
theorem dX9_tells_25 : decode cX9_tells 25 = .ok (.getfield 122, 3) := by decide +kernel
theorem dX9_tells_28 : decode cX9_tells 28 = .ok (.bipush 6, 2) := by decide +kernel
theorem dX9_tells_30 : decode cX9_tells 30 = .ok (.if_icmp .ne 6, 3) := by decide +kernel
theorem dX9_tells_33 : decode cX9_tells 33 = .ok (.bipush (-3), 2) := by decide +kernel
theorem dX9_tells_35 : decode cX9_tells 35 = .ok (.ireturn, 1) := by decide +kernel
theorem dX9_tells_36 : decode cX9_tells 36 = .ok (.aload_n 0, 1) := by decide +kernel
theorem dX9_tells_37 : decode cX9_tells 37 = .ok (.getfield 44, 3) := by decide +kernel
theorem dX9_tells_40 : decode cX9_tells 40 = .ok (.aload_n 0, 1) := by decide +kernel
theorem dX9_tells_41 : decode cX9_tells 41 = .ok (.getfield 122, 3) := by decide +kernel
theorem dX9_tells_44 : decode cX9_tells 44 = .ok (.iload_n 1, 1) := by decide +kernel
theorem dX9_tells_45 : decode cX9_tells 45 = .ok (.iastore, 1) := by decide +kernel
theorem dX9_tells_46 : decode cX9_tells 46 = .ok (.aload_n 0, 1) := by decide +kernel
theorem dX9_tells_47 : decode cX9_tells 47 = .ok (.getfield 47, 3) := by decide +kernel
theorem dX9_tells_50 : decode cX9_tells 50 = .ok (.aload_n 0, 1) := by decide +kernel
theorem dX9_tells_51 : decode cX9_tells 51 = .ok (.getfield 122, 3) := by decide +kernel
theorem dX9_tells_54 : decode cX9_tells 54 = .ok (.iload_n 2, 1) := by decide +kernel
theorem dX9_tells_55 : decode cX9_tells 55 = .ok (.iastore, 1) := by decide +kernel
theorem dX9_tells_56 : decode cX9_tells 56 = .ok (.aload_n 0, 1) := by decide +kernel
theorem dX9_tells_57 : decode cX9_tells 57 = .ok (.dup, 1) := by decide +kernel
theorem dX9_tells_58 : decode cX9_tells 58 = .ok (.getfield 122, 3) := by decide +kernel
theorem dX9_tells_61 : decode cX9_tells 61 = .ok (.iconst 1, 1) := by decide +kernel
theorem dX9_tells_62 : decode cX9_tells 62 = .ok (.iadd, 1) := by decide +kernel
theorem dX9_tells_63 : decode cX9_tells 63 = .ok (.putfield 122, 3) := by decide +kernel
theorem dX9_tells_66 : decode cX9_tells 66 = .ok (.aload_n 0, 1) := by decide +kernel
theorem dX9_tells_67 : decode cX9_tells 67 = .ok (.getfield 122, 3) := by decide +kernel
theorem dX9_tells_70 : decode cX9_tells 70 = .ok (.ireturn, 1) := by decide +kernel
theorem dX9_record_0 : decode cX9_record 0 = .ok (.aload_n 0, 1) := by decide +kernel
theorem dX9_record_1 : decode cX9_record 1 = .ok (.iconst 0, 1) := by decide +kernel
theorem dX9_record_2 : decode cX9_record 2 = .ok (.putfield 62, 3) := by decide +kernel
theorem dX9_record_5 : decode cX9_record 5 = .ok (.iload_n 1, 1) := by decide +kernel
theorem dX9_record_6 : decode cX9_record 6 = .ok (.iconst 0, 1) := by decide +kernel
theorem dX9_record_7 : decode cX9_record 7 = .ok (.iconst 4, 1) := by decide +kernel
theorem dX9_record_8 : decode cX9_record 8 = .ok (.invokestatic 66, 3) := by decide +kernel
theorem dX9_record_11 : decode cX9_record 11 = .ok (.ifCond .eq 12, 3) := by decide +kernel
theorem dX9_record_14 : decode cX9_record 14 = .ok (.iload_n 2, 1) := by decide +kernel
theorem dX9_record_15 : decode cX9_record 15 = .ok (.iconst 0, 1) := by decide +kernel
theorem dX9_record_16 : decode cX9_record 16 = .ok (.iconst 1, 1) := by decide +kernel
theorem dX9_record_17 : decode cX9_record 17 = .ok (.invokestatic 66, 3) := by decide +kernel
theorem dX9_record_20 : decode cX9_record 20 = .ok (.ifCond .ne 5, 3) := by decide +kernel
theorem dX9_record_23 : decode cX9_record 23 = .ok (.iconst (-1), 1) := by decide +kernel
theorem dX9_record_24 : decode cX9_record 24 = .ok (.ireturn, 1) := by decide +kernel
theorem dX9_record_25 : decode cX9_record 25 = .ok (.aload_n 0, 1) := by decide +kernel
theorem dX9_record_26 : decode cX9_record 26 = .ok (.getfield 125, 3) := by decide +kernel
theorem dX9_record_29 : decode cX9_record 29 = .ok (.bipush 6, 2) := by decide +kernel
theorem dX9_record_31 : decode cX9_record 31 = .ok (.if_icmp .ne 6, 3) := by decide +kernel
theorem dX9_record_34 : decode cX9_record 34 = .ok (.bipush (-3), 2) := by decide +kernel
theorem dX9_record_36 : decode cX9_record 36 = .ok (.ireturn, 1) := by decide +kernel
theorem dX9_record_37 : decode cX9_record 37 = .ok (.aload_n 0, 1) := by decide +kernel
theorem dX9_record_38 : decode cX9_record 38 = .ok (.getfield 50, 3) := by decide +kernel
theorem dX9_record_41 : decode cX9_record 41 = .ok (.aload_n 0, 1) := by decide +kernel
theorem dX9_record_42 : decode cX9_record 42 = .ok (.getfield 125, 3) := by decide +kernel
theorem dX9_record_45 : decode cX9_record 45 = .ok (.iload_n 1, 1) := by decide +kernel
theorem dX9_record_46 : decode cX9_record 46 = .ok (.iastore, 1) := by decide +kernel
theorem dX9_record_47 : decode cX9_record 47 = .ok (.aload_n 0, 1) := by decide +kernel
theorem dX9_record_48 : decode cX9_record 48 = .ok (.getfield 53, 3) := by decide +kernel
theorem dX9_record_51 : decode cX9_record 51 = .ok (.aload_n 0, 1) := by decide +kernel
theorem dX9_record_52 : decode cX9_record 52 = .ok (.getfield 125, 3) := by decide +kernel
theorem dX9_record_55 : decode cX9_record 55 = .ok (.iload_n 2, 1) := by decide +kernel
theorem dX9_record_56 : decode cX9_record 56 = .ok (.iastore, 1) := by decide +kernel
theorem dX9_record_57 : decode cX9_record 57 = .ok (.aload_n 0, 1) := by decide +kernel
theorem dX9_record_58 : decode cX9_record 58 = .ok (.dup, 1) := by decide +kernel
theorem dX9_record_59 : decode cX9_record 59 = .ok (.getfield 125, 3) := by decide +kernel
theorem dX9_record_62 : decode cX9_record 62 = .ok (.iconst 1, 1) := by decide +kernel
theorem dX9_record_63 : decode cX9_record 63 = .ok (.iadd, 1) := by decide +kernel
theorem dX9_record_64 : decode cX9_record 64 = .ok (.putfield 125, 3) := by decide +kernel
theorem dX9_record_67 : decode cX9_record 67 = .ok (.aload_n 0, 1) := by decide +kernel
theorem dX9_record_68 : decode cX9_record 68 = .ok (.getfield 125, 3) := by decide +kernel
theorem dX9_record_71 : decode cX9_record 71 = .ok (.ireturn, 1) := by decide +kernel
theorem dX9_forget_0 : decode cX9_forget 0 = .ok (.aload_n 0, 1) := by decide +kernel
theorem dX9_forget_1 : decode cX9_forget 1 = .ok (.iconst 0, 1) := by decide +kernel
theorem dX9_forget_2 : decode cX9_forget 2 = .ok (.putfield 62, 3) := by decide +kernel
theorem dX9_forget_5 : decode cX9_forget 5 = .ok (.aload_n 0, 1) := by decide +kernel
theorem dX9_forget_6 : decode cX9_forget 6 = .ok (.getfield 122, 3) := by decide +kernel
theorem dX9_forget_9 : decode cX9_forget 9 = .ok (.aload_n 0, 1) := by decide +kernel
theorem dX9_forget_10 : decode cX9_forget 10 = .ok (.getfield 125, 3) := by decide +kernel
theorem dX9_forget_13 : decode cX9_forget 13 = .ok (.iadd, 1) := by decide +kernel
theorem dX9_forget_14 : decode cX9_forget 14 = .ok (.istore_n 1, 1) := by decide +kernel
theorem dX9_forget_15 : decode cX9_forget 15 = .ok (.aload_n 0, 1) := by decide +kernel
theorem dX9_forget_16 : decode cX9_forget 16 = .ok (.iconst 0, 1) := by decide +kernel
theorem dX9_forget_17 : decode cX9_forget 17 = .ok (.putfield 122, 3) := by decide +kernel
theorem dX9_forget_20 : decode cX9_forget 20 = .ok (.aload_n 0, 1) := by decide +kernel
theorem dX9_forget_21 : decode cX9_forget 21 = .ok (.iconst 0, 1) := by decide +kernel
theorem dX9_forget_22 : decode cX9_forget 22 = .ok (.putfield 125, 3) := by decide +kernel
theorem dX9_forget_25 : decode cX9_forget 25 = .ok (.iload_n 1, 1) := by decide +kernel
theorem dX9_forget_26 : decode cX9_forget 26 = .ok (.ireturn, 1) := by decide +kernel
theorem dX9_isAsTold_0 : decode cX9_isAsTold 0 = .ok (.iconst 1, 1) := by decide +kernel
theorem dX9_isAsTold_1 : decode cX9_isAsTold 1 = .ok (.istore_n 1, 1) := by decide +kernel
theorem dX9_isAsTold_2 : decode cX9_isAsTold 2 = .ok (.iconst 0, 1) := by decide +kernel
theorem dX9_isAsTold_3 : decode cX9_isAsTold 3 = .ok (.istore_n 2, 1) := by decide +kernel
theorem dX9_isAsTold_4 : decode cX9_isAsTold 4 = .ok (.iload_n 2, 1) := by decide +kernel
theorem dX9_isAsTold_5 : decode cX9_isAsTold 5 = .ok (.aload_n 0, 1) := by decide +kernel
theorem dX9_isAsTold_6 : decode cX9_isAsTold 6 = .ok (.getfield 122, 3) := by decide +kernel
theorem dX9_isAsTold_9 : decode cX9_isAsTold 9 = .ok (.if_icmp .ge 51, 3) := by decide +kernel
theorem dX9_isAsTold_12 : decode cX9_isAsTold 12 = .ok (.iload_n 1, 1) := by decide +kernel
theorem dX9_isAsTold_13 : decode cX9_isAsTold 13 = .ok (.ifCond .eq 39, 3) := by decide +kernel
theorem dX9_isAsTold_16 : decode cX9_isAsTold 16 = .ok (.aload_n 0, 1) := by decide +kernel
theorem dX9_isAsTold_17 : decode cX9_isAsTold 17 = .ok (.aload_n 0, 1) := by decide +kernel
theorem dX9_isAsTold_18 : decode cX9_isAsTold 18 = .ok (.getfield 31, 3) := by decide +kernel
theorem dX9_isAsTold_21 : decode cX9_isAsTold 21 = .ok (.aload_n 0, 1) := by decide +kernel
theorem dX9_isAsTold_22 : decode cX9_isAsTold 22 = .ok (.getfield 44, 3) := by decide +kernel
theorem dX9_isAsTold_25 : decode cX9_isAsTold 25 = .ok (.iload_n 2, 1) := by decide +kernel
theorem dX9_isAsTold_26 : decode cX9_isAsTold 26 = .ok (.iaload, 1) := by decide +kernel
theorem dX9_isAsTold_27 : decode cX9_isAsTold 27 = .ok (.invokevirtual 156, 3) := by decide +kernel
theorem dX9_isAsTold_30 : decode cX9_isAsTold 30 = .ok (.aload_n 0, 1) := by decide +kernel
theorem dX9_isAsTold_31 : decode cX9_isAsTold 31 = .ok (.getfield 47, 3) := by decide +kernel
theorem dX9_isAsTold_34 : decode cX9_isAsTold 34 = .ok (.iload_n 2, 1) := by decide +kernel
theorem dX9_isAsTold_35 : decode cX9_isAsTold 35 = .ok (.iaload, 1) := by decide +kernel
theorem dX9_isAsTold_36 : decode cX9_isAsTold 36 = .ok (.iconst 1, 1) := by decide +kernel
theorem dX9_isAsTold_37 : decode cX9_isAsTold 37 = .ok (.if_icmp .ne 7, 3) := by decide +kernel
theorem dX9_isAsTold_40 : decode cX9_isAsTold 40 = .ok (.iconst 1, 1) := by decide +kernel
theorem dX9_isAsTold_41 : decode cX9_isAsTold 41 = .ok (.goto 4, 3) := by decide +kernel
theorem dX9_isAsTold_44 : decode cX9_isAsTold 44 = .ok (.iconst 0, 1) := by decide +kernel
theorem dX9_isAsTold_45 : decode cX9_isAsTold 45 = .ok (.if_icmp .ne 7, 3) := by decide +kernel
theorem dX9_isAsTold_48 : decode cX9_isAsTold 48 = .ok (.iconst 1, 1) := by decide +kernel
theorem dX9_isAsTold_49 : decode cX9_isAsTold 49 = .ok (.goto 4, 3) := by decide +kernel
theorem dX9_isAsTold_52 : decode cX9_isAsTold 52 = .ok (.iconst 0, 1) := by decide +kernel
theorem dX9_isAsTold_53 : decode cX9_isAsTold 53 = .ok (.istore_n 1, 1) := by decide +kernel
theorem dX9_isAsTold_54 : decode cX9_isAsTold 54 = .ok (.iinc 2 1, 3) := by decide +kernel
theorem dX9_isAsTold_57 : decode cX9_isAsTold 57 = .ok (.goto (-53), 3) := by decide +kernel
theorem dX9_isAsTold_60 : decode cX9_isAsTold 60 = .ok (.iload_n 1, 1) := by decide +kernel
theorem dX9_isAsTold_61 : decode cX9_isAsTold 61 = .ok (.ireturn, 1) := by decide +kernel
theorem dX9_isAsRecorded_0 : decode cX9_isAsRecorded 0 = .ok (.iconst 1, 1) := by decide +kernel
theorem dX9_isAsRecorded_1 : decode cX9_isAsRecorded 1 = .ok (.istore_n 1, 1) := by decide +kernel
theorem dX9_isAsRecorded_2 : decode cX9_isAsRecorded 2 = .ok (.iconst 0, 1) := by decide +kernel
theorem dX9_isAsRecorded_3 : decode cX9_isAsRecorded 3 = .ok (.istore_n 2, 1) := by decide +kernel
theorem dX9_isAsRecorded_4 : decode cX9_isAsRecorded 4 = .ok (.iload_n 2, 1) := by decide +kernel
theorem dX9_isAsRecorded_5 : decode cX9_isAsRecorded 5 = .ok (.aload_n 0, 1) := by decide +kernel
theorem dX9_isAsRecorded_6 : decode cX9_isAsRecorded 6 = .ok (.getfield 125, 3) := by decide +kernel
theorem dX9_isAsRecorded_9 : decode cX9_isAsRecorded 9 = .ok (.if_icmp .ge 55, 3) := by decide +kernel
theorem dX9_isAsRecorded_12 : decode cX9_isAsRecorded 12 = .ok (.iload_n 1, 1) := by decide +kernel
theorem dX9_isAsRecorded_13 : decode cX9_isAsRecorded 13 = .ok (.ifCond .eq 43, 3) := by decide +kernel
theorem dX9_isAsRecorded_16 : decode cX9_isAsRecorded 16 = .ok (.aload_n 0, 1) := by decide +kernel
theorem dX9_isAsRecorded_17 : decode cX9_isAsRecorded 17 = .ok (.aload_n 0, 1) := by decide +kernel
theorem dX9_isAsRecorded_18 : decode cX9_isAsRecorded 18 = .ok (.getfield 31, 3) := by decide +kernel
theorem dX9_isAsRecorded_21 : decode cX9_isAsRecorded 21 = .ok (.aload_n 0, 1) := by decide +kernel
theorem dX9_isAsRecorded_22 : decode cX9_isAsRecorded 22 = .ok (.getfield 50, 3) := by decide +kernel
theorem dX9_isAsRecorded_25 : decode cX9_isAsRecorded 25 = .ok (.iload_n 2, 1) := by decide +kernel
theorem dX9_isAsRecorded_26 : decode cX9_isAsRecorded 26 = .ok (.iaload, 1) := by decide +kernel
theorem dX9_isAsRecorded_27 : decode cX9_isAsRecorded 27 = .ok (.aload_n 0, 1) := by decide +kernel
theorem dX9_isAsRecorded_28 : decode cX9_isAsRecorded 28 = .ok (.invokevirtual 175, 3) := by decide +kernel
theorem dX9_isAsRecorded_31 : decode cX9_isAsRecorded 31 = .ok (.invokevirtual 179, 3) := by decide +kernel
theorem dX9_isAsRecorded_34 : decode cX9_isAsRecorded 34 = .ok (.aload_n 0, 1) := by decide +kernel
theorem dX9_isAsRecorded_35 : decode cX9_isAsRecorded 35 = .ok (.getfield 53, 3) := by decide +kernel
theorem dX9_isAsRecorded_38 : decode cX9_isAsRecorded 38 = .ok (.iload_n 2, 1) := by decide +kernel
theorem dX9_isAsRecorded_39 : decode cX9_isAsRecorded 39 = .ok (.iaload, 1) := by decide +kernel
theorem dX9_isAsRecorded_40 : decode cX9_isAsRecorded 40 = .ok (.iconst 1, 1) := by decide +kernel
theorem dX9_isAsRecorded_41 : decode cX9_isAsRecorded 41 = .ok (.if_icmp .ne 7, 3) := by decide +kernel
theorem dX9_isAsRecorded_44 : decode cX9_isAsRecorded 44 = .ok (.iconst 1, 1) := by decide +kernel
theorem dX9_isAsRecorded_45 : decode cX9_isAsRecorded 45 = .ok (.goto 4, 3) := by decide +kernel
theorem dX9_isAsRecorded_48 : decode cX9_isAsRecorded 48 = .ok (.iconst 0, 1) := by decide +kernel
theorem dX9_isAsRecorded_49 : decode cX9_isAsRecorded 49 = .ok (.if_icmp .ne 7, 3) := by decide +kernel
theorem dX9_isAsRecorded_52 : decode cX9_isAsRecorded 52 = .ok (.iconst 1, 1) := by decide +kernel
theorem dX9_isAsRecorded_53 : decode cX9_isAsRecorded 53 = .ok (.goto 4, 3) := by decide +kernel
theorem dX9_isAsRecorded_56 : decode cX9_isAsRecorded 56 = .ok (.iconst 0, 1) := by decide +kernel
theorem dX9_isAsRecorded_57 : decode cX9_isAsRecorded 57 = .ok (.istore_n 1, 1) := by decide +kernel
theorem dX9_isAsRecorded_58 : decode cX9_isAsRecorded 58 = .ok (.iinc 2 1, 3) := by decide +kernel
theorem dX9_isAsRecorded_61 : decode cX9_isAsRecorded 61 = .ok (.goto (-57), 3) := by decide +kernel
theorem dX9_isAsRecorded_64 : decode cX9_isAsRecorded 64 = .ok (.iload_n 1, 1) := by decide +kernel
theorem dX9_isAsRecorded_65 : decode cX9_isAsRecorded 65 = .ok (.ireturn, 1) := by decide +kernel
theorem dX9_who_0 : decode cX9_who 0 = .ok (.aload_n 0, 1) := by decide +kernel
theorem dX9_who_1 : decode cX9_who 1 = .ok (.iconst 0, 1) := by decide +kernel
theorem dX9_who_2 : decode cX9_who 2 = .ok (.putfield 62, 3) := by decide +kernel
theorem dX9_who_5 : decode cX9_who 5 = .ok (.aload_n 0, 1) := by decide +kernel
theorem dX9_who_6 : decode cX9_who 6 = .ok (.invokevirtual 212, 3) := by decide +kernel
theorem dX9_who_9 : decode cX9_who 9 = .ok (.aload_n 0, 1) := by decide +kernel
theorem dX9_who_10 : decode cX9_who 10 = .ok (.getfield 31, 3) := by decide +kernel
theorem dX9_who_13 : decode cX9_who 13 = .ok (.bipush 21, 2) := by decide +kernel
theorem dX9_who_15 : decode cX9_who 15 = .ok (.iconst 0, 1) := by decide +kernel
theorem dX9_who_16 : decode cX9_who 16 = .ok (.iastore, 1) := by decide +kernel
theorem dX9_who_17 : decode cX9_who 17 = .ok (.aload_n 0, 1) := by decide +kernel
theorem dX9_who_18 : decode cX9_who 18 = .ok (.invokevirtual 215, 3) := by decide +kernel
theorem dX9_who_21 : decode cX9_who 21 = .ok (.ifCond .eq 9, 3) := by decide +kernel
theorem dX9_who_24 : decode cX9_who 24 = .ok (.sipush 128, 3) := by decide +kernel
theorem dX9_who_27 : decode cX9_who 27 = .ok (.goto 4, 3) := by decide +kernel
theorem dX9_who_30 : decode cX9_who 30 = .ok (.iconst 0, 1) := by decide +kernel
theorem dX9_who_31 : decode cX9_who 31 = .ok (.istore_n 1, 1) := by decide +kernel
theorem dX9_who_32 : decode cX9_who 32 = .ok (.iconst 0, 1) := by decide +kernel
theorem dX9_who_33 : decode cX9_who 33 = .ok (.istore_n 2, 1) := by decide +kernel
theorem dX9_who_34 : decode cX9_who 34 = .ok (.iload_n 2, 1) := by decide +kernel
theorem dX9_who_35 : decode cX9_who 35 = .ok (.aload_n 0, 1) := by decide +kernel
theorem dX9_who_36 : decode cX9_who 36 = .ok (.getfield 13, 3) := by decide +kernel
theorem dX9_who_39 : decode cX9_who 39 = .ok (.iconst 1, 1) := by decide +kernel
theorem dX9_who_40 : decode cX9_who 40 = .ok (.iaload, 1) := by decide +kernel
theorem dX9_who_41 : decode cX9_who 41 = .ok (.if_icmp .ge 36, 3) := by decide +kernel
theorem dX9_who_44 : decode cX9_who 44 = .ok (.aload_n 0, 1) := by decide +kernel
theorem dX9_who_45 : decode cX9_who 45 = .ok (.getfield 31, 3) := by decide +kernel
theorem dX9_who_48 : decode cX9_who 48 = .ok (.bipush 21, 2) := by decide +kernel
theorem dX9_who_50 : decode cX9_who 50 = .ok (.iconst 1, 1) := by decide +kernel
theorem dX9_who_51 : decode cX9_who 51 = .ok (.iload_n 2, 1) := by decide +kernel
theorem dX9_who_52 : decode cX9_who 52 = .ok (.ishl, 1) := by decide +kernel
theorem dX9_who_53 : decode cX9_who 53 = .ok (.iastore, 1) := by decide +kernel
theorem dX9_who_54 : decode cX9_who 54 = .ok (.iload_n 1, 1) := by decide +kernel
theorem dX9_who_55 : decode cX9_who 55 = .ok (.aload_n 0, 1) := by decide +kernel
theorem dX9_who_56 : decode cX9_who 56 = .ok (.invokevirtual 215, 3) := by decide +kernel
theorem dX9_who_59 : decode cX9_who 59 = .ok (.ifCond .eq 9, 3) := by decide +kernel
theorem dX9_who_62 : decode cX9_who 62 = .ok (.iconst 1, 1) := by decide +kernel
theorem dX9_who_63 : decode cX9_who 63 = .ok (.iload_n 2, 1) := by decide +kernel
theorem dX9_who_64 : decode cX9_who 64 = .ok (.ishl, 1) := by decide +kernel
theorem dX9_who_65 : decode cX9_who 65 = .ok (.goto 4, 3) := by decide +kernel
theorem dX9_who_68 : decode cX9_who 68 = .ok (.iconst 0, 1) := by decide +kernel
theorem dX9_who_69 : decode cX9_who 69 = .ok (.ior, 1) := by decide +kernel
theorem dX9_who_70 : decode cX9_who 70 = .ok (.istore_n 1, 1) := by decide +kernel
theorem dX9_who_71 : decode cX9_who 71 = .ok (.iinc 2 1, 3) := by decide +kernel
theorem dX9_who_74 : decode cX9_who 74 = .ok (.goto (-40), 3) := by decide +kernel
theorem dX9_who_77 : decode cX9_who 77 = .ok (.iload_n 1, 1) := by decide +kernel
theorem dX9_who_78 : decode cX9_who 78 = .ok (.ireturn, 1) := by decide +kernel
theorem dX9_which_0 : decode cX9_which 0 = .ok (.aload_n 0, 1) := by decide +kernel
theorem dX9_which_1 : decode cX9_which 1 = .ok (.iconst 0, 1) := by decide +kernel
theorem dX9_which_2 : decode cX9_which 2 = .ok (.putfield 62, 3) := by decide +kernel
theorem dX9_which_5 : decode cX9_which 5 = .ok (.iload_n 1, 1) := by decide +kernel
theorem dX9_which_6 : decode cX9_which 6 = .ok (.iconst 0, 1) := by decide +kernel
theorem dX9_which_7 : decode cX9_which 7 = .ok (.iconst 2, 1) := by decide +kernel
theorem dX9_which_8 : decode cX9_which 8 = .ok (.invokestatic 66, 3) := by decide +kernel
theorem dX9_which_11 : decode cX9_which 11 = .ok (.ifCond .ne 5, 3) := by decide +kernel
theorem dX9_which_14 : decode cX9_which 14 = .ok (.iconst (-1), 1) := by decide +kernel
theorem dX9_which_15 : decode cX9_which 15 = .ok (.ireturn, 1) := by decide +kernel
theorem dX9_which_16 : decode cX9_which 16 = .ok (.aload_n 0, 1) := by decide +kernel
theorem dX9_which_17 : decode cX9_which 17 = .ok (.invokevirtual 212, 3) := by decide +kernel
theorem dX9_which_20 : decode cX9_which 20 = .ok (.iconst 0, 1) := by decide +kernel
theorem dX9_which_21 : decode cX9_which 21 = .ok (.istore_n 2, 1) := by decide +kernel
theorem dX9_which_22 : decode cX9_which 22 = .ok (.bipush (-9), 2) := by decide +kernel
theorem dX9_which_24 : decode cX9_which 24 = .ok (.istore_n 3, 1) := by decide +kernel
theorem dX9_which_25 : decode cX9_which 25 = .ok (.bipush 15, 2) := by decide +kernel
theorem dX9_which_27 : decode cX9_which 27 = .ok (.istore 4, 2) := by decide +kernel
theorem dX9_which_29 : decode cX9_which 29 = .ok (.iconst 0, 1) := by decide +kernel
theorem dX9_which_30 : decode cX9_which 30 = .ok (.istore 5, 2) := by decide +kernel
theorem dX9_which_32 : decode cX9_which 32 = .ok (.iload 5, 2) := by decide +kernel
theorem dX9_which_34 : decode cX9_which 34 = .ok (.bipush 16, 2) := by decide +kernel
theorem dX9_which_36 : decode cX9_which 36 = .ok (.if_icmp .ge 53, 3) := by decide +kernel
theorem dX9_which_39 : decode cX9_which 39 = .ok (.aload_n 0, 1) := by decide +kernel
theorem dX9_which_40 : decode cX9_which 40 = .ok (.getfield 31, 3) := by decide +kernel
theorem dX9_which_43 : decode cX9_which 43 = .ok (.bipush 22, 2) := by decide +kernel
theorem dX9_which_45 : decode cX9_which 45 = .ok (.iload 5, 2) := by decide +kernel
theorem dX9_which_47 : decode cX9_which 47 = .ok (.iastore, 1) := by decide +kernel
theorem dX9_which_48 : decode cX9_which 48 = .ok (.aload_n 0, 1) := by decide +kernel
theorem dX9_which_49 : decode cX9_which 49 = .ok (.invokevirtual 215, 3) := by decide +kernel
theorem dX9_which_52 : decode cX9_which 52 = .ok (.ifCond .eq 31, 3) := by decide +kernel
theorem dX9_which_55 : decode cX9_which 55 = .ok (.aload_n 0, 1) := by decide +kernel
theorem dX9_which_56 : decode cX9_which 56 = .ok (.invokevirtual 218, 3) := by decide +kernel
theorem dX9_which_59 : decode cX9_which 59 = .ok (.ifCond .eq 24, 3) := by decide +kernel
theorem dX9_which_62 : decode cX9_which 62 = .ok (.iload_n 2, 1) := by decide +kernel
theorem dX9_which_63 : decode cX9_which 63 = .ok (.ifCond .ne 8, 3) := by decide +kernel
theorem dX9_which_66 : decode cX9_which 66 = .ok (.iload 5, 2) := by decide +kernel
theorem dX9_which_68 : decode cX9_which 68 = .ok (.goto 4, 3) := by decide +kernel
theorem dX9_which_71 : decode cX9_which 71 = .ok (.iload_n 3, 1) := by decide +kernel
theorem dX9_which_72 : decode cX9_which 72 = .ok (.istore_n 3, 1) := by decide +kernel
theorem dX9_which_73 : decode cX9_which 73 = .ok (.iload 4, 2) := by decide +kernel
theorem dX9_which_75 : decode cX9_which 75 = .ok (.iload 5, 2) := by decide +kernel
theorem dX9_which_77 : decode cX9_which 77 = .ok (.iand, 1) := by decide +kernel
theorem dX9_which_78 : decode cX9_which 78 = .ok (.istore 4, 2) := by decide +kernel
theorem dX9_which_80 : decode cX9_which 80 = .ok (.iinc 2 1, 3) := by decide +kernel
theorem dX9_which_83 : decode cX9_which 83 = .ok (.iinc 5 1, 3) := by decide +kernel
theorem dX9_which_86 : decode cX9_which 86 = .ok (.goto (-54), 3) := by decide +kernel
theorem dX9_which_89 : decode cX9_which 89 = .ok (.iload_n 1, 1) := by decide +kernel
theorem dX9_which_90 : decode cX9_which 90 = .ok (.ifCond .ne 7, 3) := by decide +kernel
theorem dX9_which_93 : decode cX9_which 93 = .ok (.iload_n 2, 1) := by decide +kernel
theorem dX9_which_94 : decode cX9_which 94 = .ok (.goto 18, 3) := by decide +kernel
theorem dX9_which_97 : decode cX9_which 97 = .ok (.iload_n 1, 1) := by decide +kernel
theorem dX9_which_98 : decode cX9_which 98 = .ok (.iconst 1, 1) := by decide +kernel
theorem dX9_which_99 : decode cX9_which 99 = .ok (.if_icmp .eq 7, 3) := by decide +kernel
theorem dX9_which_102 : decode cX9_which 102 = .ok (.iload_n 2, 1) := by decide +kernel
theorem dX9_which_103 : decode cX9_which 103 = .ok (.ifCond .ne 7, 3) := by decide +kernel
theorem dX9_which_106 : decode cX9_which 106 = .ok (.iload_n 3, 1) := by decide +kernel
theorem dX9_which_107 : decode cX9_which 107 = .ok (.goto 5, 3) := by decide +kernel
theorem dX9_which_110 : decode cX9_which 110 = .ok (.iload 4, 2) := by decide +kernel
theorem dX9_which_112 : decode cX9_which 112 = .ok (.ireturn, 1) := by decide +kernel
theorem dX9_mayMarry_0 : decode cX9_mayMarry 0 = .ok (.aload_n 0, 1) := by decide +kernel
theorem dX9_mayMarry_1 : decode cX9_mayMarry 1 = .ok (.getfield 28, 3) := by decide +kernel
theorem dX9_mayMarry_4 : decode cX9_mayMarry 4 = .ok (.iconst 0, 1) := by decide +kernel
theorem dX9_mayMarry_5 : decode cX9_mayMarry 5 = .ok (.iload_n 1, 1) := by decide +kernel
theorem dX9_mayMarry_6 : decode cX9_mayMarry 6 = .ok (.iadd, 1) := by decide +kernel
theorem dX9_mayMarry_7 : decode cX9_mayMarry 7 = .ok (.iaload, 1) := by decide +kernel
theorem dX9_mayMarry_8 : decode cX9_mayMarry 8 = .ok (.aload_n 0, 1) := by decide +kernel
theorem dX9_mayMarry_9 : decode cX9_mayMarry 9 = .ok (.getfield 28, 3) := by decide +kernel
theorem dX9_mayMarry_12 : decode cX9_mayMarry 12 = .ok (.iconst 0, 1) := by decide +kernel
theorem dX9_mayMarry_13 : decode cX9_mayMarry 13 = .ok (.iload_n 2, 1) := by decide +kernel
theorem dX9_mayMarry_14 : decode cX9_mayMarry 14 = .ok (.iadd, 1) := by decide +kernel
theorem dX9_mayMarry_15 : decode cX9_mayMarry 15 = .ok (.iaload, 1) := by decide +kernel
theorem dX9_mayMarry_16 : decode cX9_mayMarry 16 = .ok (.if_icmp .eq 20, 3) := by decide +kernel
theorem dX9_mayMarry_19 : decode cX9_mayMarry 19 = .ok (.aload_n 0, 1) := by decide +kernel
theorem dX9_mayMarry_20 : decode cX9_mayMarry 20 = .ok (.getfield 25, 3) := by decide +kernel
theorem dX9_mayMarry_23 : decode cX9_mayMarry 23 = .ok (.iload_n 1, 1) := by decide +kernel
theorem dX9_mayMarry_24 : decode cX9_mayMarry 24 = .ok (.iaload, 1) := by decide +kernel
theorem dX9_mayMarry_25 : decode cX9_mayMarry 25 = .ok (.iload_n 2, 1) := by decide +kernel
theorem dX9_mayMarry_26 : decode cX9_mayMarry 26 = .ok (.ishr, 1) := by decide +kernel
theorem dX9_mayMarry_27 : decode cX9_mayMarry 27 = .ok (.iconst 1, 1) := by decide +kernel
theorem dX9_mayMarry_28 : decode cX9_mayMarry 28 = .ok (.iand, 1) := by decide +kernel
theorem dX9_mayMarry_29 : decode cX9_mayMarry 29 = .ok (.ifCond .ne 7, 3) := by decide +kernel
theorem dX9_mayMarry_32 : decode cX9_mayMarry 32 = .ok (.iconst 1, 1) := by decide +kernel
theorem dX9_mayMarry_33 : decode cX9_mayMarry 33 = .ok (.goto 4, 3) := by decide +kernel
theorem dX9_mayMarry_36 : decode cX9_mayMarry 36 = .ok (.iconst 0, 1) := by decide +kernel
theorem dX9_mayMarry_37 : decode cX9_mayMarry 37 = .ok (.ireturn, 1) := by decide +kernel
theorem dX9_pairs_0 : decode cX9_pairs 0 = .ok (.aload_n 0, 1) := by decide +kernel
theorem dX9_pairs_1 : decode cX9_pairs 1 = .ok (.getfield 59, 3) := by decide +kernel
theorem dX9_pairs_4 : decode cX9_pairs 4 = .ok (.iconst 0, 1) := by decide +kernel
theorem dX9_pairs_5 : decode cX9_pairs 5 = .ok (.iconst 0, 1) := by decide +kernel
theorem dX9_pairs_6 : decode cX9_pairs 6 = .ok (.iastore, 1) := by decide +kernel
theorem dX9_pairs_7 : decode cX9_pairs 7 = .ok (.iconst 1, 1) := by decide +kernel
theorem dX9_pairs_8 : decode cX9_pairs 8 = .ok (.istore_n 1, 1) := by decide +kernel
theorem dX9_pairs_9 : decode cX9_pairs 9 = .ok (.iload_n 1, 1) := by decide +kernel
theorem dX9_pairs_10 : decode cX9_pairs 10 = .ok (.aload_n 0, 1) := by decide +kernel
theorem dX9_pairs_11 : decode cX9_pairs 11 = .ok (.invokevirtual 175, 3) := by decide +kernel
theorem dX9_pairs_14 : decode cX9_pairs 14 = .ok (.if_icmp .gt 136, 3) := by decide +kernel
theorem dX9_pairs_17 : decode cX9_pairs 17 = .ok (.iconst 0, 1) := by decide +kernel
theorem dX9_pairs_18 : decode cX9_pairs 18 = .ok (.istore_n 2, 1) := by decide +kernel
theorem dX9_pairs_19 : decode cX9_pairs 19 = .ok (.iload_n 1, 1) := by decide +kernel
theorem dX9_pairs_20 : decode cX9_pairs 20 = .ok (.iload_n 2, 1) := by decide +kernel
theorem dX9_pairs_21 : decode cX9_pairs 21 = .ok (.ishr, 1) := by decide +kernel
theorem dX9_pairs_22 : decode cX9_pairs 22 = .ok (.iconst 1, 1) := by decide +kernel
theorem dX9_pairs_23 : decode cX9_pairs 23 = .ok (.iand, 1) := by decide +kernel
theorem dX9_pairs_24 : decode cX9_pairs 24 = .ok (.ifCond .ne 9, 3) := by decide +kernel
theorem dX9_pairs_27 : decode cX9_pairs 27 = .ok (.iinc 2 1, 3) := by decide +kernel
theorem dX9_pairs_30 : decode cX9_pairs 30 = .ok (.goto (-11), 3) := by decide +kernel
theorem dX9_pairs_33 : decode cX9_pairs 33 = .ok (.iload_n 1, 1) := by decide +kernel
theorem dX9_pairs_34 : decode cX9_pairs 34 = .ok (.iconst 1, 1) := by decide +kernel
theorem dX9_pairs_35 : decode cX9_pairs 35 = .ok (.iload_n 2, 1) := by decide +kernel
theorem dX9_pairs_36 : decode cX9_pairs 36 = .ok (.ishl, 1) := by decide +kernel
theorem dX9_pairs_37 : decode cX9_pairs 37 = .ok (.iconst (-1), 1) := by decide +kernel
theorem dX9_pairs_38 : decode cX9_pairs 38 = .ok (.ixor, 1) := by decide +kernel
theorem dX9_pairs_39 : decode cX9_pairs 39 = .ok (.iand, 1) := by decide +kernel
theorem dX9_pairs_40 : decode cX9_pairs 40 = .ok (.istore_n 3, 1) := by decide +kernel
theorem dX9_pairs_41 : decode cX9_pairs 41 = .ok (.aload_n 0, 1) := by decide +kernel
theorem dX9_pairs_42 : decode cX9_pairs 42 = .ok (.getfield 59, 3) := by decide +kernel
theorem dX9_pairs_45 : decode cX9_pairs 45 = .ok (.iload_n 1, 1) := by decide +kernel
theorem dX9_pairs_46 : decode cX9_pairs 46 = .ok (.aload_n 0, 1) := by decide +kernel
theorem dX9_pairs_47 : decode cX9_pairs 47 = .ok (.getfield 59, 3) := by decide +kernel
theorem dX9_pairs_50 : decode cX9_pairs 50 = .ok (.iload_n 3, 1) := by decide +kernel
theorem dX9_pairs_51 : decode cX9_pairs 51 = .ok (.iaload, 1) := by decide +kernel
theorem dX9_pairs_52 : decode cX9_pairs 52 = .ok (.iastore, 1) := by decide +kernel
theorem dX9_pairs_53 : decode cX9_pairs 53 = .ok (.iload_n 2, 1) := by decide +kernel
theorem dX9_pairs_54 : decode cX9_pairs 54 = .ok (.iconst 1, 1) := by decide +kernel
theorem dX9_pairs_55 : decode cX9_pairs 55 = .ok (.iadd, 1) := by decide +kernel
theorem dX9_pairs_56 : decode cX9_pairs 56 = .ok (.istore 4, 2) := by decide +kernel
theorem dX9_pairs_58 : decode cX9_pairs 58 = .ok (.iload 4, 2) := by decide +kernel
theorem dX9_pairs_60 : decode cX9_pairs 60 = .ok (.aload_n 0, 1) := by decide +kernel
theorem dX9_pairs_61 : decode cX9_pairs 61 = .ok (.getfield 13, 3) := by decide +kernel
theorem dX9_pairs_64 : decode cX9_pairs 64 = .ok (.iconst 1, 1) := by decide +kernel
theorem dX9_pairs_65 : decode cX9_pairs 65 = .ok (.iaload, 1) := by decide +kernel
theorem dX9_pairs_66 : decode cX9_pairs 66 = .ok (.if_icmp .ge 78, 3) := by decide +kernel
theorem dX9_pairs_69 : decode cX9_pairs 69 = .ok (.iload_n 3, 1) := by decide +kernel
theorem dX9_pairs_70 : decode cX9_pairs 70 = .ok (.iload 4, 2) := by decide +kernel
theorem dX9_pairs_72 : decode cX9_pairs 72 = .ok (.ishr, 1) := by decide +kernel
theorem dX9_pairs_73 : decode cX9_pairs 73 = .ok (.iconst 1, 1) := by decide +kernel
theorem dX9_pairs_74 : decode cX9_pairs 74 = .ok (.iand, 1) := by decide +kernel
theorem dX9_pairs_75 : decode cX9_pairs 75 = .ok (.iconst 1, 1) := by decide +kernel
theorem dX9_pairs_76 : decode cX9_pairs 76 = .ok (.if_icmp .ne 31, 3) := by decide +kernel
theorem dX9_pairs_79 : decode cX9_pairs 79 = .ok (.aload_n 0, 1) := by decide +kernel
theorem dX9_pairs_80 : decode cX9_pairs 80 = .ok (.iload_n 2, 1) := by decide +kernel
theorem dX9_pairs_81 : decode cX9_pairs 81 = .ok (.iload 4, 2) := by decide +kernel
theorem dX9_pairs_83 : decode cX9_pairs 83 = .ok (.invokevirtual 221, 3) := by decide +kernel
theorem dX9_pairs_86 : decode cX9_pairs 86 = .ok (.ifCond .eq 21, 3) := by decide +kernel
theorem dX9_pairs_89 : decode cX9_pairs 89 = .ok (.iconst 1, 1) := by decide +kernel
theorem dX9_pairs_90 : decode cX9_pairs 90 = .ok (.aload_n 0, 1) := by decide +kernel
theorem dX9_pairs_91 : decode cX9_pairs 91 = .ok (.getfield 59, 3) := by decide +kernel
theorem dX9_pairs_94 : decode cX9_pairs 94 = .ok (.iload_n 3, 1) := by decide +kernel
theorem dX9_pairs_95 : decode cX9_pairs 95 = .ok (.iconst 1, 1) := by decide +kernel
theorem dX9_pairs_96 : decode cX9_pairs 96 = .ok (.iload 4, 2) := by decide +kernel
theorem dX9_pairs_98 : decode cX9_pairs 98 = .ok (.ishl, 1) := by decide +kernel
theorem dX9_pairs_99 : decode cX9_pairs 99 = .ok (.iconst (-1), 1) := by decide +kernel
theorem dX9_pairs_100 : decode cX9_pairs 100 = .ok (.ixor, 1) := by decide +kernel
theorem dX9_pairs_101 : decode cX9_pairs 101 = .ok (.iand, 1) := by decide +kernel
theorem dX9_pairs_102 : decode cX9_pairs 102 = .ok (.iaload, 1) := by decide +kernel
theorem dX9_pairs_103 : decode cX9_pairs 103 = .ok (.iadd, 1) := by decide +kernel
theorem dX9_pairs_104 : decode cX9_pairs 104 = .ok (.goto 4, 3) := by decide +kernel
theorem dX9_pairs_107 : decode cX9_pairs 107 = .ok (.iconst 0, 1) := by decide +kernel
theorem dX9_pairs_108 : decode cX9_pairs 108 = .ok (.istore 5, 2) := by decide +kernel
theorem dX9_pairs_110 : decode cX9_pairs 110 = .ok (.aload_n 0, 1) := by decide +kernel
theorem dX9_pairs_111 : decode cX9_pairs 111 = .ok (.getfield 59, 3) := by decide +kernel
theorem dX9_pairs_114 : decode cX9_pairs 114 = .ok (.iload_n 1, 1) := by decide +kernel
theorem dX9_pairs_115 : decode cX9_pairs 115 = .ok (.iload 5, 2) := by decide +kernel
theorem dX9_pairs_117 : decode cX9_pairs 117 = .ok (.aload_n 0, 1) := by decide +kernel
theorem dX9_pairs_118 : decode cX9_pairs 118 = .ok (.getfield 59, 3) := by decide +kernel
theorem dX9_pairs_121 : decode cX9_pairs 121 = .ok (.iload_n 1, 1) := by decide +kernel
theorem dX9_pairs_122 : decode cX9_pairs 122 = .ok (.iaload, 1) := by decide +kernel
theorem dX9_pairs_123 : decode cX9_pairs 123 = .ok (.if_icmp .le 8, 3) := by decide +kernel
theorem dX9_pairs_126 : decode cX9_pairs 126 = .ok (.iload 5, 2) := by decide +kernel
theorem dX9_pairs_128 : decode cX9_pairs 128 = .ok (.goto 9, 3) := by decide +kernel
theorem dX9_pairs_131 : decode cX9_pairs 131 = .ok (.aload_n 0, 1) := by decide +kernel
theorem dX9_pairs_132 : decode cX9_pairs 132 = .ok (.getfield 59, 3) := by decide +kernel
theorem dX9_pairs_135 : decode cX9_pairs 135 = .ok (.iload_n 1, 1) := by decide +kernel
theorem dX9_pairs_136 : decode cX9_pairs 136 = .ok (.iaload, 1) := by decide +kernel
theorem dX9_pairs_137 : decode cX9_pairs 137 = .ok (.iastore, 1) := by decide +kernel
theorem dX9_pairs_138 : decode cX9_pairs 138 = .ok (.iinc 4 1, 3) := by decide +kernel
theorem dX9_pairs_141 : decode cX9_pairs 141 = .ok (.goto (-83), 3) := by decide +kernel
theorem dX9_pairs_144 : decode cX9_pairs 144 = .ok (.iinc 1 1, 3) := by decide +kernel
theorem dX9_pairs_147 : decode cX9_pairs 147 = .ok (.goto (-138), 3) := by decide +kernel
theorem dX9_pairs_150 : decode cX9_pairs 150 = .ok (.return_, 1) := by decide +kernel
theorem dX9_married_0 : decode cX9_married 0 = .ok (.aload_n 0, 1) := by decide +kernel
theorem dX9_married_1 : decode cX9_married 1 = .ok (.iconst 0, 1) := by decide +kernel
theorem dX9_married_2 : decode cX9_married 2 = .ok (.putfield 62, 3) := by decide +kernel
theorem dX9_married_5 : decode cX9_married 5 = .ok (.iload_n 1, 1) := by decide +kernel
theorem dX9_married_6 : decode cX9_married 6 = .ok (.iconst (-1), 1) := by decide +kernel
theorem dX9_married_7 : decode cX9_married 7 = .ok (.if_icmp .eq 13, 3) := by decide +kernel
theorem dX9_married_10 : decode cX9_married 10 = .ok (.aload_n 0, 1) := by decide +kernel
theorem dX9_married_11 : decode cX9_married 11 = .ok (.iload_n 1, 1) := by decide +kernel
theorem dX9_married_12 : decode cX9_married 12 = .ok (.invokevirtual 153, 3) := by decide +kernel
theorem dX9_married_15 : decode cX9_married 15 = .ok (.ifCond .ne 5, 3) := by decide +kernel
theorem dX9_married_18 : decode cX9_married 18 = .ok (.iconst (-1), 1) := by decide +kernel
theorem dX9_married_19 : decode cX9_married 19 = .ok (.ireturn, 1) := by decide +kernel
theorem dX9_married_20 : decode cX9_married 20 = .ok (.aload_n 0, 1) := by decide +kernel
theorem dX9_married_21 : decode cX9_married 21 = .ok (.invokevirtual 225, 3) := by decide +kernel
theorem dX9_married_24 : decode cX9_married 24 = .ok (.aload_n 0, 1) := by decide +kernel
theorem dX9_married_25 : decode cX9_married 25 = .ok (.invokevirtual 175, 3) := by decide +kernel
theorem dX9_married_28 : decode cX9_married 28 = .ok (.istore_n 2, 1) := by decide +kernel
theorem dX9_married_29 : decode cX9_married 29 = .ok (.iconst 0, 1) := by decide +kernel
theorem dX9_married_30 : decode cX9_married 30 = .ok (.istore_n 3, 1) := by decide +kernel
theorem dX9_married_31 : decode cX9_married 31 = .ok (.iload_n 3, 1) := by decide +kernel
theorem dX9_married_32 : decode cX9_married 32 = .ok (.aload_n 0, 1) := by decide +kernel
theorem dX9_married_33 : decode cX9_married 33 = .ok (.getfield 13, 3) := by decide +kernel
theorem dX9_married_36 : decode cX9_married 36 = .ok (.iconst 1, 1) := by decide +kernel
theorem dX9_married_37 : decode cX9_married 37 = .ok (.iaload, 1) := by decide +kernel
theorem dX9_married_38 : decode cX9_married 38 = .ok (.if_icmp .ge 156, 3) := by decide +kernel
theorem dX9_married_41 : decode cX9_married 41 = .ok (.iload_n 2, 1) := by decide +kernel
theorem dX9_married_42 : decode cX9_married 42 = .ok (.iload_n 3, 1) := by decide +kernel
theorem dX9_married_43 : decode cX9_married 43 = .ok (.ishr, 1) := by decide +kernel
theorem dX9_married_44 : decode cX9_married 44 = .ok (.iconst 1, 1) := by decide +kernel
theorem dX9_married_45 : decode cX9_married 45 = .ok (.iand, 1) := by decide +kernel
theorem dX9_married_46 : decode cX9_married 46 = .ok (.iconst 1, 1) := by decide +kernel
theorem dX9_married_47 : decode cX9_married 47 = .ok (.if_icmp .ne 141, 3) := by decide +kernel
theorem dX9_married_50 : decode cX9_married 50 = .ok (.iload_n 2, 1) := by decide +kernel
theorem dX9_married_51 : decode cX9_married 51 = .ok (.iconst 1, 1) := by decide +kernel
theorem dX9_married_52 : decode cX9_married 52 = .ok (.iload_n 3, 1) := by decide +kernel
theorem dX9_married_53 : decode cX9_married 53 = .ok (.ishl, 1) := by decide +kernel
theorem dX9_married_54 : decode cX9_married 54 = .ok (.iconst (-1), 1) := by decide +kernel
theorem dX9_married_55 : decode cX9_married 55 = .ok (.ixor, 1) := by decide +kernel
theorem dX9_married_56 : decode cX9_married 56 = .ok (.iand, 1) := by decide +kernel
theorem dX9_married_57 : decode cX9_married 57 = .ok (.istore 4, 2) := by decide +kernel
theorem dX9_married_59 : decode cX9_married 59 = .ok (.bipush (-9), 2) := by decide +kernel
theorem dX9_married_61 : decode cX9_married 61 = .ok (.istore 5, 2) := by decide +kernel
theorem dX9_married_63 : decode cX9_married 63 = .ok (.aload_n 0, 1) := by decide +kernel
theorem dX9_married_64 : decode cX9_married 64 = .ok (.getfield 13, 3) := by decide +kernel
theorem dX9_married_67 : decode cX9_married 67 = .ok (.iconst 1, 1) := by decide +kernel
theorem dX9_married_68 : decode cX9_married 68 = .ok (.iaload, 1) := by decide +kernel
theorem dX9_married_69 : decode cX9_married 69 = .ok (.iconst 1, 1) := by decide +kernel
theorem dX9_married_70 : decode cX9_married 70 = .ok (.isub, 1) := by decide +kernel
theorem dX9_married_71 : decode cX9_married 71 = .ok (.istore 6, 2) := by decide +kernel
theorem dX9_married_73 : decode cX9_married 73 = .ok (.iload 6, 2) := by decide +kernel
theorem dX9_married_75 : decode cX9_married 75 = .ok (.iload_n 3, 1) := by decide +kernel
theorem dX9_married_76 : decode cX9_married 76 = .ok (.if_icmp .le 76, 3) := by decide +kernel
theorem dX9_married_79 : decode cX9_married 79 = .ok (.iload 4, 2) := by decide +kernel
theorem dX9_married_81 : decode cX9_married 81 = .ok (.iload 6, 2) := by decide +kernel
theorem dX9_married_83 : decode cX9_married 83 = .ok (.ishr, 1) := by decide +kernel
theorem dX9_married_84 : decode cX9_married 84 = .ok (.iconst 1, 1) := by decide +kernel
theorem dX9_married_85 : decode cX9_married 85 = .ok (.iand, 1) := by decide +kernel
theorem dX9_married_86 : decode cX9_married 86 = .ok (.iconst 1, 1) := by decide +kernel
theorem dX9_married_87 : decode cX9_married 87 = .ok (.if_icmp .ne 42, 3) := by decide +kernel
theorem dX9_married_90 : decode cX9_married 90 = .ok (.aload_n 0, 1) := by decide +kernel
theorem dX9_married_91 : decode cX9_married 91 = .ok (.iload_n 3, 1) := by decide +kernel
theorem dX9_married_92 : decode cX9_married 92 = .ok (.iload 6, 2) := by decide +kernel
theorem dX9_married_94 : decode cX9_married 94 = .ok (.invokevirtual 221, 3) := by decide +kernel
theorem dX9_married_97 : decode cX9_married 97 = .ok (.ifCond .eq 32, 3) := by decide +kernel
theorem dX9_married_100 : decode cX9_married 100 = .ok (.iconst 1, 1) := by decide +kernel
theorem dX9_married_101 : decode cX9_married 101 = .ok (.aload_n 0, 1) := by decide +kernel
theorem dX9_married_102 : decode cX9_married 102 = .ok (.getfield 59, 3) := by decide +kernel
theorem dX9_married_105 : decode cX9_married 105 = .ok (.iload 4, 2) := by decide +kernel
theorem dX9_married_107 : decode cX9_married 107 = .ok (.iconst 1, 1) := by decide +kernel
theorem dX9_married_108 : decode cX9_married 108 = .ok (.iload 6, 2) := by decide +kernel
theorem dX9_married_110 : decode cX9_married 110 = .ok (.ishl, 1) := by decide +kernel
theorem dX9_married_111 : decode cX9_married 111 = .ok (.iconst (-1), 1) := by decide +kernel
theorem dX9_married_112 : decode cX9_married 112 = .ok (.ixor, 1) := by decide +kernel
theorem dX9_married_113 : decode cX9_married 113 = .ok (.iand, 1) := by decide +kernel
theorem dX9_married_114 : decode cX9_married 114 = .ok (.iaload, 1) := by decide +kernel
theorem dX9_married_115 : decode cX9_married 115 = .ok (.iadd, 1) := by decide +kernel
theorem dX9_married_116 : decode cX9_married 116 = .ok (.aload_n 0, 1) := by decide +kernel
theorem dX9_married_117 : decode cX9_married 117 = .ok (.getfield 59, 3) := by decide +kernel
theorem dX9_married_120 : decode cX9_married 120 = .ok (.iload_n 2, 1) := by decide +kernel
theorem dX9_married_121 : decode cX9_married 121 = .ok (.iaload, 1) := by decide +kernel
theorem dX9_married_122 : decode cX9_married 122 = .ok (.if_icmp .ne 7, 3) := by decide +kernel
theorem dX9_married_125 : decode cX9_married 125 = .ok (.iconst 1, 1) := by decide +kernel
theorem dX9_married_126 : decode cX9_married 126 = .ok (.goto 4, 3) := by decide +kernel
theorem dX9_married_129 : decode cX9_married 129 = .ok (.iconst 0, 1) := by decide +kernel
theorem dX9_married_130 : decode cX9_married 130 = .ok (.istore 7, 2) := by decide +kernel
theorem dX9_married_132 : decode cX9_married 132 = .ok (.iload 7, 2) := by decide +kernel
theorem dX9_married_134 : decode cX9_married 134 = .ok (.ifCond .eq 8, 3) := by decide +kernel
theorem dX9_married_137 : decode cX9_married 137 = .ok (.iload 6, 2) := by decide +kernel
theorem dX9_married_139 : decode cX9_married 139 = .ok (.goto 5, 3) := by decide +kernel
theorem dX9_married_142 : decode cX9_married 142 = .ok (.iload 5, 2) := by decide +kernel
theorem dX9_married_144 : decode cX9_married 144 = .ok (.istore 5, 2) := by decide +kernel
theorem dX9_married_146 : decode cX9_married 146 = .ok (.iinc 6 (-1), 3) := by decide +kernel
theorem dX9_married_149 : decode cX9_married 149 = .ok (.goto (-76), 3) := by decide +kernel
theorem dX9_married_152 : decode cX9_married 152 = .ok (.aload_n 0, 1) := by decide +kernel
theorem dX9_married_153 : decode cX9_married 153 = .ok (.getfield 56, 3) := by decide +kernel
theorem dX9_married_156 : decode cX9_married 156 = .ok (.iload_n 3, 1) := by decide +kernel
theorem dX9_married_157 : decode cX9_married 157 = .ok (.iload 5, 2) := by decide +kernel
theorem dX9_married_159 : decode cX9_married 159 = .ok (.iastore, 1) := by decide +kernel
theorem dX9_married_160 : decode cX9_married 160 = .ok (.iload 4, 2) := by decide +kernel
theorem dX9_married_162 : decode cX9_married 162 = .ok (.istore_n 2, 1) := by decide +kernel
theorem dX9_married_163 : decode cX9_married 163 = .ok (.iload 5, 2) := by decide +kernel
theorem dX9_married_165 : decode cX9_married 165 = .ok (.bipush (-9), 2) := by decide +kernel
theorem dX9_married_167 : decode cX9_married 167 = .ok (.if_icmp .eq 21, 3) := by decide +kernel
theorem dX9_married_170 : decode cX9_married 170 = .ok (.aload_n 0, 1) := by decide +kernel
theorem dX9_married_171 : decode cX9_married 171 = .ok (.getfield 56, 3) := by decide +kernel
theorem dX9_married_174 : decode cX9_married 174 = .ok (.iload 5, 2) := by decide +kernel
theorem dX9_married_176 : decode cX9_married 176 = .ok (.iload_n 3, 1) := by decide +kernel
theorem dX9_married_177 : decode cX9_married 177 = .ok (.iastore, 1) := by decide +kernel
theorem dX9_married_178 : decode cX9_married 178 = .ok (.iload 4, 2) := by decide +kernel
theorem dX9_married_180 : decode cX9_married 180 = .ok (.iconst 1, 1) := by decide +kernel
theorem dX9_married_181 : decode cX9_married 181 = .ok (.iload 5, 2) := by decide +kernel
theorem dX9_married_183 : decode cX9_married 183 = .ok (.ishl, 1) := by decide +kernel
theorem dX9_married_184 : decode cX9_married 184 = .ok (.iconst (-1), 1) := by decide +kernel
theorem dX9_married_185 : decode cX9_married 185 = .ok (.ixor, 1) := by decide +kernel
theorem dX9_married_186 : decode cX9_married 186 = .ok (.iand, 1) := by decide +kernel
theorem dX9_married_187 : decode cX9_married 187 = .ok (.istore_n 2, 1) := by decide +kernel
theorem dX9_married_188 : decode cX9_married 188 = .ok (.iinc 3 1, 3) := by decide +kernel
theorem dX9_married_191 : decode cX9_married 191 = .ok (.goto (-160), 3) := by decide +kernel
theorem dX9_married_194 : decode cX9_married 194 = .ok (.iload_n 1, 1) := by decide +kernel
theorem dX9_married_195 : decode cX9_married 195 = .ok (.iconst (-1), 1) := by decide +kernel
theorem dX9_married_196 : decode cX9_married 196 = .ok (.if_icmp .ne 15, 3) := by decide +kernel
theorem dX9_married_199 : decode cX9_married 199 = .ok (.aload_n 0, 1) := by decide +kernel
theorem dX9_married_200 : decode cX9_married 200 = .ok (.getfield 59, 3) := by decide +kernel
theorem dX9_married_203 : decode cX9_married 203 = .ok (.aload_n 0, 1) := by decide +kernel
theorem dX9_married_204 : decode cX9_married 204 = .ok (.invokevirtual 175, 3) := by decide +kernel
theorem dX9_married_207 : decode cX9_married 207 = .ok (.iaload, 1) := by decide +kernel
theorem dX9_married_208 : decode cX9_married 208 = .ok (.goto 9, 3) := by decide +kernel
theorem dX9_married_211 : decode cX9_married 211 = .ok (.aload_n 0, 1) := by decide +kernel
theorem dX9_married_212 : decode cX9_married 212 = .ok (.getfield 56, 3) := by decide +kernel
theorem dX9_married_215 : decode cX9_married 215 = .ok (.iload_n 1, 1) := by decide +kernel
theorem dX9_married_216 : decode cX9_married 216 = .ok (.iaload, 1) := by decide +kernel
theorem dX9_married_217 : decode cX9_married 217 = .ok (.ireturn, 1) := by decide +kernel
theorem dX9_power_0 : decode cX9_power 0 = .ok (.iconst 1, 1) := by decide +kernel
theorem dX9_power_1 : decode cX9_power 1 = .ok (.istore_n 2, 1) := by decide +kernel
theorem dX9_power_2 : decode cX9_power 2 = .ok (.iconst 0, 1) := by decide +kernel
theorem dX9_power_3 : decode cX9_power 3 = .ok (.istore_n 3, 1) := by decide +kernel
theorem dX9_power_4 : decode cX9_power 4 = .ok (.iload_n 3, 1) := by decide +kernel
theorem dX9_power_5 : decode cX9_power 5 = .ok (.iload_n 1, 1) := by decide +kernel
theorem dX9_power_6 : decode cX9_power 6 = .ok (.if_icmp .ge 13, 3) := by decide +kernel
theorem dX9_power_9 : decode cX9_power 9 = .ok (.iload_n 2, 1) := by decide +kernel
theorem dX9_power_10 : decode cX9_power 10 = .ok (.iload_n 0, 1) := by decide +kernel
theorem dX9_power_11 : decode cX9_power 11 = .ok (.imul, 1) := by decide +kernel
theorem dX9_power_12 : decode cX9_power 12 = .ok (.istore_n 2, 1) := by decide +kernel
theorem dX9_power_13 : decode cX9_power 13 = .ok (.iinc 3 1, 3) := by decide +kernel
theorem dX9_power_16 : decode cX9_power 16 = .ok (.goto (-12), 3) := by decide +kernel
theorem dX9_power_19 : decode cX9_power 19 = .ok (.iload_n 2, 1) := by decide +kernel
theorem dX9_power_20 : decode cX9_power 20 = .ok (.ireturn, 1) := by decide +kernel
theorem dX9_odds_0 : decode cX9_odds 0 = .ok (.aload_n 0, 1) := by decide +kernel
theorem dX9_odds_1 : decode cX9_odds 1 = .ok (.iconst 0, 1) := by decide +kernel
theorem dX9_odds_2 : decode cX9_odds 2 = .ok (.putfield 62, 3) := by decide +kernel
theorem dX9_odds_5 : decode cX9_odds 5 = .ok (.aload_n 0, 1) := by decide +kernel
theorem dX9_odds_6 : decode cX9_odds 6 = .ok (.iload_n 1, 1) := by decide +kernel
theorem dX9_odds_7 : decode cX9_odds 7 = .ok (.invokevirtual 168, 3) := by decide +kernel
theorem dX9_odds_10 : decode cX9_odds 10 = .ok (.ifCond .eq 33, 3) := by decide +kernel
theorem dX9_odds_13 : decode cX9_odds 13 = .ok (.iload_n 2, 1) := by decide +kernel
theorem dX9_odds_14 : decode cX9_odds 14 = .ok (.iconst 0, 1) := by decide +kernel
theorem dX9_odds_15 : decode cX9_odds 15 = .ok (.bipush 6, 2) := by decide +kernel
theorem dX9_odds_17 : decode cX9_odds 17 = .ok (.invokestatic 66, 3) := by decide +kernel
theorem dX9_odds_20 : decode cX9_odds 20 = .ok (.ifCond .eq 23, 3) := by decide +kernel
theorem dX9_odds_23 : decode cX9_odds 23 = .ok (.iload_n 3, 1) := by decide +kernel
theorem dX9_odds_24 : decode cX9_odds 24 = .ok (.iconst 0, 1) := by decide +kernel
theorem dX9_odds_25 : decode cX9_odds 25 = .ok (.bipush 20, 2) := by decide +kernel
theorem dX9_odds_27 : decode cX9_odds 27 = .ok (.invokestatic 66, 3) := by decide +kernel
theorem dX9_odds_30 : decode cX9_odds 30 = .ok (.ifCond .eq 13, 3) := by decide +kernel
theorem dX9_odds_33 : decode cX9_odds 33 = .ok (.iload 4, 2) := by decide +kernel
theorem dX9_odds_35 : decode cX9_odds 35 = .ok (.iconst 0, 1) := by decide +kernel
theorem dX9_odds_36 : decode cX9_odds 36 = .ok (.iconst 1, 1) := by decide +kernel
theorem dX9_odds_37 : decode cX9_odds 37 = .ok (.invokestatic 66, 3) := by decide +kernel
theorem dX9_odds_40 : decode cX9_odds 40 = .ok (.ifCond .ne 5, 3) := by decide +kernel
theorem dX9_odds_43 : decode cX9_odds 43 = .ok (.iconst (-1), 1) := by decide +kernel
theorem dX9_odds_44 : decode cX9_odds 44 = .ok (.ireturn, 1) := by decide +kernel
theorem dX9_odds_45 : decode cX9_odds 45 = .ok (.iconst 0, 1) := by decide +kernel
theorem dX9_odds_46 : decode cX9_odds 46 = .ok (.istore 5, 2) := by decide +kernel
theorem dX9_odds_48 : decode cX9_odds 48 = .ok (.iconst 0, 1) := by decide +kernel
theorem dX9_odds_49 : decode cX9_odds 49 = .ok (.istore 6, 2) := by decide +kernel
theorem dX9_odds_51 : decode cX9_odds 51 = .ok (.iload 6, 2) := by decide +kernel
theorem dX9_odds_53 : decode cX9_odds 53 = .ok (.iconst 1, 1) := by decide +kernel
theorem dX9_odds_54 : decode cX9_odds 54 = .ok (.iload_n 2, 1) := by decide +kernel
theorem dX9_odds_55 : decode cX9_odds 55 = .ok (.ishl, 1) := by decide +kernel
theorem dX9_odds_56 : decode cX9_odds 56 = .ok (.if_icmp .ge 58, 3) := by decide +kernel
theorem dX9_odds_59 : decode cX9_odds 59 = .ok (.iload 5, 2) := by decide +kernel
theorem dX9_odds_61 : decode cX9_odds 61 = .ok (.aload_n 0, 1) := by decide +kernel
theorem dX9_odds_62 : decode cX9_odds 62 = .ok (.aload_n 0, 1) := by decide +kernel
theorem dX9_odds_63 : decode cX9_odds 63 = .ok (.getfield 28, 3) := by decide +kernel
theorem dX9_odds_66 : decode cX9_odds 66 = .ok (.iload_n 1, 1) := by decide +kernel
theorem dX9_odds_67 : decode cX9_odds 67 = .ok (.invokevirtual 135, 3) := by decide +kernel
theorem dX9_odds_70 : decode cX9_odds 70 = .ok (.invokestatic 143, 3) := by decide +kernel
theorem dX9_odds_73 : decode cX9_odds 73 = .ok (.iload 6, 2) := by decide +kernel
theorem dX9_odds_75 : decode cX9_odds 75 = .ok (.invokestatic 143, 3) := by decide +kernel
theorem dX9_odds_78 : decode cX9_odds 78 = .ok (.iadd, 1) := by decide +kernel
theorem dX9_odds_79 : decode cX9_odds 79 = .ok (.iload_n 3, 1) := by decide +kernel
theorem dX9_odds_80 : decode cX9_odds 80 = .ok (.if_icmp .lt 24, 3) := by decide +kernel
theorem dX9_odds_83 : decode cX9_odds 83 = .ok (.aload_n 0, 1) := by decide +kernel
theorem dX9_odds_84 : decode cX9_odds 84 = .ok (.getfield 13, 3) := by decide +kernel
theorem dX9_odds_87 : decode cX9_odds 87 = .ok (.iconst 0, 1) := by decide +kernel
theorem dX9_odds_88 : decode cX9_odds 88 = .ok (.iaload, 1) := by decide +kernel
theorem dX9_odds_89 : decode cX9_odds 89 = .ok (.iconst 1, 1) := by decide +kernel
theorem dX9_odds_90 : decode cX9_odds 90 = .ok (.isub, 1) := by decide +kernel
theorem dX9_odds_91 : decode cX9_odds 91 = .ok (.iload_n 2, 1) := by decide +kernel
theorem dX9_odds_92 : decode cX9_odds 92 = .ok (.iload 6, 2) := by decide +kernel
theorem dX9_odds_94 : decode cX9_odds 94 = .ok (.invokestatic 143, 3) := by decide +kernel
theorem dX9_odds_97 : decode cX9_odds 97 = .ok (.isub, 1) := by decide +kernel
theorem dX9_odds_98 : decode cX9_odds 98 = .ok (.invokestatic 228, 3) := by decide +kernel
theorem dX9_odds_101 : decode cX9_odds 101 = .ok (.goto 4, 3) := by decide +kernel
theorem dX9_odds_104 : decode cX9_odds 104 = .ok (.iconst 0, 1) := by decide +kernel
theorem dX9_odds_105 : decode cX9_odds 105 = .ok (.iadd, 1) := by decide +kernel
theorem dX9_odds_106 : decode cX9_odds 106 = .ok (.istore 5, 2) := by decide +kernel
theorem dX9_odds_108 : decode cX9_odds 108 = .ok (.iinc 6 1, 3) := by decide +kernel
theorem dX9_odds_111 : decode cX9_odds 111 = .ok (.goto (-60), 3) := by decide +kernel
theorem dX9_odds_114 : decode cX9_odds 114 = .ok (.iload 5, 2) := by decide +kernel
theorem dX9_odds_116 : decode cX9_odds 116 = .ok (.aload_n 0, 1) := by decide +kernel
theorem dX9_odds_117 : decode cX9_odds 117 = .ok (.getfield 13, 3) := by decide +kernel
theorem dX9_odds_120 : decode cX9_odds 120 = .ok (.iconst 0, 1) := by decide +kernel
theorem dX9_odds_121 : decode cX9_odds 121 = .ok (.iaload, 1) := by decide +kernel
theorem dX9_odds_122 : decode cX9_odds 122 = .ok (.iload_n 2, 1) := by decide +kernel
theorem dX9_odds_123 : decode cX9_odds 123 = .ok (.invokestatic 228, 3) := by decide +kernel
theorem dX9_odds_126 : decode cX9_odds 126 = .ok (.iload 4, 2) := by decide +kernel
theorem dX9_odds_128 : decode cX9_odds 128 = .ok (.invokestatic 171, 3) := by decide +kernel
theorem dX9_odds_131 : decode cX9_odds 131 = .ok (.ireturn, 1) := by decide +kernel
theorem dX9_rate_0 : decode cX9_rate 0 = .ok (.aload_n 0, 1) := by decide +kernel
theorem dX9_rate_1 : decode cX9_rate 1 = .ok (.iconst 0, 1) := by decide +kernel
theorem dX9_rate_2 : decode cX9_rate 2 = .ok (.putfield 62, 3) := by decide +kernel
theorem dX9_rate_5 : decode cX9_rate 5 = .ok (.iload_n 1, 1) := by decide +kernel
theorem dX9_rate_6 : decode cX9_rate 6 = .ok (.iconst 0, 1) := by decide +kernel
theorem dX9_rate_7 : decode cX9_rate 7 = .ok (.iconst 5, 1) := by decide +kernel
theorem dX9_rate_8 : decode cX9_rate 8 = .ok (.invokestatic 66, 3) := by decide +kernel
theorem dX9_rate_11 : decode cX9_rate 11 = .ok (.ifCond .eq 11, 3) := by decide +kernel
theorem dX9_rate_14 : decode cX9_rate 14 = .ok (.aload_n 0, 1) := by decide +kernel
theorem dX9_rate_15 : decode cX9_rate 15 = .ok (.iload_n 2, 1) := by decide +kernel
theorem dX9_rate_16 : decode cX9_rate 16 = .ok (.invokevirtual 153, 3) := by decide +kernel
theorem dX9_rate_19 : decode cX9_rate 19 = .ok (.ifCond .ne 6, 3) := by decide +kernel
theorem dX9_rate_22 : decode cX9_rate 22 = .ok (.ldc 231, 2) := by decide +kernel
theorem dX9_rate_24 : decode cX9_rate 24 = .ok (.ireturn, 1) := by decide +kernel
theorem dX9_rate_25 : decode cX9_rate 25 = .ok (.aload_n 0, 1) := by decide +kernel
theorem dX9_rate_26 : decode cX9_rate 26 = .ok (.getfield 28, 3) := by decide +kernel
theorem dX9_rate_29 : decode cX9_rate 29 = .ok (.bipush 7, 2) := by decide +kernel
theorem dX9_rate_31 : decode cX9_rate 31 = .ok (.iload_n 2, 1) := by decide +kernel
theorem dX9_rate_32 : decode cX9_rate 32 = .ok (.iadd, 1) := by decide +kernel
theorem dX9_rate_33 : decode cX9_rate 33 = .ok (.iaload, 1) := by decide +kernel
theorem dX9_rate_34 : decode cX9_rate 34 = .ok (.istore_n 3, 1) := by decide +kernel
theorem dX9_rate_35 : decode cX9_rate 35 = .ok (.iload_n 3, 1) := by decide +kernel
theorem dX9_rate_36 : decode cX9_rate 36 = .ok (.aload_n 0, 1) := by decide +kernel
theorem dX9_rate_37 : decode cX9_rate 37 = .ok (.aload_n 0, 1) := by decide +kernel
theorem dX9_rate_38 : decode cX9_rate 38 = .ok (.getfield 28, 3) := by decide +kernel
theorem dX9_rate_41 : decode cX9_rate 41 = .ok (.iload_n 2, 1) := by decide +kernel
theorem dX9_rate_42 : decode cX9_rate 42 = .ok (.invokevirtual 159, 3) := by decide +kernel
theorem dX9_rate_45 : decode cX9_rate 45 = .ok (.iadd, 1) := by decide +kernel
theorem dX9_rate_46 : decode cX9_rate 46 = .ok (.istore 4, 2) := by decide +kernel
theorem dX9_rate_48 : decode cX9_rate 48 = .ok (.iload_n 3, 1) := by decide +kernel
theorem dX9_rate_49 : decode cX9_rate 49 = .ok (.aload_n 0, 1) := by decide +kernel
theorem dX9_rate_50 : decode cX9_rate 50 = .ok (.aload_n 0, 1) := by decide +kernel
theorem dX9_rate_51 : decode cX9_rate 51 = .ok (.getfield 28, 3) := by decide +kernel
theorem dX9_rate_54 : decode cX9_rate 54 = .ok (.iload_n 2, 1) := by decide +kernel
theorem dX9_rate_55 : decode cX9_rate 55 = .ok (.invokevirtual 162, 3) := by decide +kernel
theorem dX9_rate_58 : decode cX9_rate 58 = .ok (.isub, 1) := by decide +kernel
theorem dX9_rate_59 : decode cX9_rate 59 = .ok (.istore 5, 2) := by decide +kernel
theorem dX9_rate_61 : decode cX9_rate 61 = .ok (.aload_n 0, 1) := by decide +kernel
theorem dX9_rate_62 : decode cX9_rate 62 = .ok (.dup, 1) := by decide +kernel
theorem dX9_rate_63 : decode cX9_rate 63 = .ok (.getfield 232, 3) := by decide +kernel
theorem dX9_rate_66 : decode cX9_rate 66 = .ok (.iload_n 1, 1) := by decide +kernel
theorem dX9_rate_67 : decode cX9_rate 67 = .ok (.ifCond .ne 7, 3) := by decide +kernel
theorem dX9_rate_70 : decode cX9_rate 70 = .ok (.lconst 1, 1) := by decide +kernel
theorem dX9_rate_71 : decode cX9_rate 71 = .ok (.goto 50, 3) := by decide +kernel
theorem dX9_rate_74 : decode cX9_rate 74 = .ok (.iload_n 1, 1) := by decide +kernel
theorem dX9_rate_75 : decode cX9_rate 75 = .ok (.iconst 1, 1) := by decide +kernel
theorem dX9_rate_76 : decode cX9_rate 76 = .ok (.if_icmp .ne 9, 3) := by decide +kernel
theorem dX9_rate_79 : decode cX9_rate 79 = .ok (.ldc2_w 236, 3) := by decide +kernel
theorem dX9_rate_82 : decode cX9_rate 82 = .ok (.goto 39, 3) := by decide +kernel
theorem dX9_rate_85 : decode cX9_rate 85 = .ok (.iload_n 1, 1) := by decide +kernel
theorem dX9_rate_86 : decode cX9_rate 86 = .ok (.iconst 2, 1) := by decide +kernel
theorem dX9_rate_87 : decode cX9_rate 87 = .ok (.if_icmp .ne 9, 3) := by decide +kernel
theorem dX9_rate_90 : decode cX9_rate 90 = .ok (.ldc2_w 238, 3) := by decide +kernel
theorem dX9_rate_93 : decode cX9_rate 93 = .ok (.goto 28, 3) := by decide +kernel
theorem dX9_rate_96 : decode cX9_rate 96 = .ok (.iload_n 1, 1) := by decide +kernel
theorem dX9_rate_97 : decode cX9_rate 97 = .ok (.iconst 3, 1) := by decide +kernel
theorem dX9_rate_98 : decode cX9_rate 98 = .ok (.if_icmp .ne 9, 3) := by decide +kernel
theorem dX9_rate_101 : decode cX9_rate 101 = .ok (.ldc2_w 240, 3) := by decide +kernel
theorem dX9_rate_104 : decode cX9_rate 104 = .ok (.goto 17, 3) := by decide +kernel
theorem dX9_rate_107 : decode cX9_rate 107 = .ok (.iload_n 1, 1) := by decide +kernel
theorem dX9_rate_108 : decode cX9_rate 108 = .ok (.iconst 4, 1) := by decide +kernel
theorem dX9_rate_109 : decode cX9_rate 109 = .ok (.if_icmp .ne 9, 3) := by decide +kernel
theorem dX9_rate_112 : decode cX9_rate 112 = .ok (.ldc2_w 242, 3) := by decide +kernel
theorem dX9_rate_115 : decode cX9_rate 115 = .ok (.goto 6, 3) := by decide +kernel
theorem dX9_rate_118 : decode cX9_rate 118 = .ok (.ldc2_w 244, 3) := by decide +kernel
theorem dX9_rate_121 : decode cX9_rate 121 = .ok (.ladd, 1) := by decide +kernel
theorem dX9_rate_122 : decode cX9_rate 122 = .ok (.putfield 232, 3) := by decide +kernel
theorem dX9_rate_125 : decode cX9_rate 125 = .ok (.iload_n 1, 1) := by decide +kernel
theorem dX9_rate_126 : decode cX9_rate 126 = .ok (.ifCond .ne 7, 3) := by decide +kernel
theorem dX9_rate_129 : decode cX9_rate 129 = .ok (.iload_n 3, 1) := by decide +kernel
theorem dX9_rate_130 : decode cX9_rate 130 = .ok (.goto 56, 3) := by decide +kernel
theorem dX9_rate_133 : decode cX9_rate 133 = .ok (.iload_n 1, 1) := by decide +kernel
theorem dX9_rate_134 : decode cX9_rate 134 = .ok (.iconst 1, 1) := by decide +kernel
theorem dX9_rate_135 : decode cX9_rate 135 = .ok (.if_icmp .ne 8, 3) := by decide +kernel
theorem dX9_rate_138 : decode cX9_rate 138 = .ok (.iload 4, 2) := by decide +kernel
theorem dX9_rate_140 : decode cX9_rate 140 = .ok (.goto 46, 3) := by decide +kernel
theorem dX9_rate_143 : decode cX9_rate 143 = .ok (.iload_n 1, 1) := by decide +kernel
theorem dX9_rate_144 : decode cX9_rate 144 = .ok (.iconst 2, 1) := by decide +kernel
theorem dX9_rate_145 : decode cX9_rate 145 = .ok (.if_icmp .ne 8, 3) := by decide +kernel
theorem dX9_rate_148 : decode cX9_rate 148 = .ok (.iload 5, 2) := by decide +kernel
theorem dX9_rate_150 : decode cX9_rate 150 = .ok (.goto 36, 3) := by decide +kernel
theorem dX9_rate_153 : decode cX9_rate 153 = .ok (.iload_n 1, 1) := by decide +kernel
theorem dX9_rate_154 : decode cX9_rate 154 = .ok (.iconst 3, 1) := by decide +kernel
theorem dX9_rate_155 : decode cX9_rate 155 = .ok (.if_icmp .ne 10, 3) := by decide +kernel
theorem dX9_rate_158 : decode cX9_rate 158 = .ok (.iconst 2, 1) := by decide +kernel
theorem dX9_rate_159 : decode cX9_rate 159 = .ok (.iload 4, 2) := by decide +kernel
theorem dX9_rate_161 : decode cX9_rate 161 = .ok (.imul, 1) := by decide +kernel
theorem dX9_rate_162 : decode cX9_rate 162 = .ok (.goto 24, 3) := by decide +kernel
theorem dX9_rate_165 : decode cX9_rate 165 = .ok (.iload_n 1, 1) := by decide +kernel
theorem dX9_rate_166 : decode cX9_rate 166 = .ok (.iconst 4, 1) := by decide +kernel
theorem dX9_rate_167 : decode cX9_rate 167 = .ok (.if_icmp .ne 10, 3) := by decide +kernel
theorem dX9_rate_170 : decode cX9_rate 170 = .ok (.iload 5, 2) := by decide +kernel
theorem dX9_rate_172 : decode cX9_rate 172 = .ok (.iload_n 2, 1) := by decide +kernel
theorem dX9_rate_173 : decode cX9_rate 173 = .ok (.iadd, 1) := by decide +kernel
theorem dX9_rate_174 : decode cX9_rate 174 = .ok (.goto 12, 3) := by decide +kernel
theorem dX9_rate_177 : decode cX9_rate 177 = .ok (.iload_n 3, 1) := by decide +kernel
theorem dX9_rate_178 : decode cX9_rate 178 = .ok (.aload_n 0, 1) := by decide +kernel
theorem dX9_rate_179 : decode cX9_rate 179 = .ok (.getfield 28, 3) := by decide +kernel
theorem dX9_rate_182 : decode cX9_rate 182 = .ok (.bipush 24, 2) := by decide +kernel
theorem dX9_rate_184 : decode cX9_rate 184 = .ok (.iaload, 1) := by decide +kernel
theorem dX9_rate_185 : decode cX9_rate 185 = .ok (.iadd, 1) := by decide +kernel
theorem dX9_rate_186 : decode cX9_rate 186 = .ok (.ireturn, 1) := by decide +kernel
theorem dX9_keep_0 : decode cX9_keep 0 = .ok (.aload_n 0, 1) := by decide +kernel
theorem dX9_keep_1 : decode cX9_keep 1 = .ok (.iconst 0, 1) := by decide +kernel
theorem dX9_keep_2 : decode cX9_keep 2 = .ok (.putfield 62, 3) := by decide +kernel
theorem dX9_keep_5 : decode cX9_keep 5 = .ok (.iload_n 1, 1) := by decide +kernel
theorem dX9_keep_6 : decode cX9_keep 6 = .ok (.iconst 0, 1) := by decide +kernel
theorem dX9_keep_7 : decode cX9_keep 7 = .ok (.iconst 1, 1) := by decide +kernel
theorem dX9_keep_8 : decode cX9_keep 8 = .ok (.invokestatic 66, 3) := by decide +kernel
theorem dX9_keep_11 : decode cX9_keep 11 = .ok (.ifCond .ne 5, 3) := by decide +kernel
theorem dX9_keep_14 : decode cX9_keep 14 = .ok (.iconst (-1), 1) := by decide +kernel
theorem dX9_keep_15 : decode cX9_keep 15 = .ok (.ireturn, 1) := by decide +kernel
theorem dX9_keep_16 : decode cX9_keep 16 = .ok (.iconst 0, 1) := by decide +kernel
theorem dX9_keep_17 : decode cX9_keep 17 = .ok (.istore_n 2, 1) := by decide +kernel
theorem dX9_keep_18 : decode cX9_keep 18 = .ok (.iload_n 2, 1) := by decide +kernel
theorem dX9_keep_19 : decode cX9_keep 19 = .ok (.bipush 25, 2) := by decide +kernel
theorem dX9_keep_21 : decode cX9_keep 21 = .ok (.if_icmp .ge 26, 3) := by decide +kernel
theorem dX9_keep_24 : decode cX9_keep 24 = .ok (.aload_n 0, 1) := by decide +kernel
theorem dX9_keep_25 : decode cX9_keep 25 = .ok (.getfield 34, 3) := by decide +kernel
theorem dX9_keep_28 : decode cX9_keep 28 = .ok (.bipush 25, 2) := by decide +kernel
theorem dX9_keep_30 : decode cX9_keep 30 = .ok (.iload_n 1, 1) := by decide +kernel
theorem dX9_keep_31 : decode cX9_keep 31 = .ok (.imul, 1) := by decide +kernel
theorem dX9_keep_32 : decode cX9_keep 32 = .ok (.iload_n 2, 1) := by decide +kernel
theorem dX9_keep_33 : decode cX9_keep 33 = .ok (.iadd, 1) := by decide +kernel
theorem dX9_keep_34 : decode cX9_keep 34 = .ok (.aload_n 0, 1) := by decide +kernel
theorem dX9_keep_35 : decode cX9_keep 35 = .ok (.getfield 28, 3) := by decide +kernel
theorem dX9_keep_38 : decode cX9_keep 38 = .ok (.iload_n 2, 1) := by decide +kernel
theorem dX9_keep_39 : decode cX9_keep 39 = .ok (.iaload, 1) := by decide +kernel
theorem dX9_keep_40 : decode cX9_keep 40 = .ok (.iastore, 1) := by decide +kernel
theorem dX9_keep_41 : decode cX9_keep 41 = .ok (.iinc 2 1, 3) := by decide +kernel
theorem dX9_keep_44 : decode cX9_keep 44 = .ok (.goto (-26), 3) := by decide +kernel
theorem dX9_keep_47 : decode cX9_keep 47 = .ok (.aload_n 0, 1) := by decide +kernel
theorem dX9_keep_48 : decode cX9_keep 48 = .ok (.getfield 37, 3) := by decide +kernel
theorem dX9_keep_51 : decode cX9_keep 51 = .ok (.iload_n 1, 1) := by decide +kernel
theorem dX9_keep_52 : decode cX9_keep 52 = .ok (.iconst 1, 1) := by decide +kernel
theorem dX9_keep_53 : decode cX9_keep 53 = .ok (.bastore, 1) := by decide +kernel
theorem dX9_keep_54 : decode cX9_keep 54 = .ok (.aload_n 0, 1) := by decide +kernel
theorem dX9_keep_55 : decode cX9_keep 55 = .ok (.getfield 28, 3) := by decide +kernel
theorem dX9_keep_58 : decode cX9_keep 58 = .ok (.bipush 24, 2) := by decide +kernel
theorem dX9_keep_60 : decode cX9_keep 60 = .ok (.iaload, 1) := by decide +kernel
theorem dX9_keep_61 : decode cX9_keep 61 = .ok (.ireturn, 1) := by decide +kernel
theorem dX9_back_0 : decode cX9_back 0 = .ok (.aload_n 0, 1) := by decide +kernel
theorem dX9_back_1 : decode cX9_back 1 = .ok (.iconst 0, 1) := by decide +kernel
theorem dX9_back_2 : decode cX9_back 2 = .ok (.putfield 62, 3) := by decide +kernel
theorem dX9_back_5 : decode cX9_back 5 = .ok (.iload_n 1, 1) := by decide +kernel
theorem dX9_back_6 : decode cX9_back 6 = .ok (.iconst 0, 1) := by decide +kernel
theorem dX9_back_7 : decode cX9_back 7 = .ok (.iconst 1, 1) := by decide +kernel
theorem dX9_back_8 : decode cX9_back 8 = .ok (.invokestatic 66, 3) := by decide +kernel
theorem dX9_back_11 : decode cX9_back 11 = .ok (.ifCond .ne 5, 3) := by decide +kernel
theorem dX9_back_14 : decode cX9_back 14 = .ok (.iconst (-1), 1) := by decide +kernel
theorem dX9_back_15 : decode cX9_back 15 = .ok (.ireturn, 1) := by decide +kernel
theorem dX9_back_16 : decode cX9_back 16 = .ok (.aload_n 0, 1) := by decide +kernel
theorem dX9_back_17 : decode cX9_back 17 = .ok (.getfield 37, 3) := by decide +kernel
theorem dX9_back_20 : decode cX9_back 20 = .ok (.iload_n 1, 1) := by decide +kernel
theorem dX9_back_21 : decode cX9_back 21 = .ok (.baload, 1) := by decide +kernel
theorem dX9_back_22 : decode cX9_back 22 = .ok (.ifCond .ne 6, 3) := by decide +kernel
theorem dX9_back_25 : decode cX9_back 25 = .ok (.bipush (-2), 2) := by decide +kernel
theorem dX9_back_27 : decode cX9_back 27 = .ok (.ireturn, 1) := by decide +kernel
theorem dX9_back_28 : decode cX9_back 28 = .ok (.iconst 0, 1) := by decide +kernel
theorem dX9_back_29 : decode cX9_back 29 = .ok (.istore_n 2, 1) := by decide +kernel
theorem dX9_back_30 : decode cX9_back 30 = .ok (.iload_n 2, 1) := by decide +kernel
theorem dX9_back_31 : decode cX9_back 31 = .ok (.bipush 25, 2) := by decide +kernel
theorem dX9_back_33 : decode cX9_back 33 = .ok (.if_icmp .ge 26, 3) := by decide +kernel
theorem dX9_back_36 : decode cX9_back 36 = .ok (.aload_n 0, 1) := by decide +kernel
theorem dX9_back_37 : decode cX9_back 37 = .ok (.getfield 28, 3) := by decide +kernel
theorem dX9_back_40 : decode cX9_back 40 = .ok (.iload_n 2, 1) := by decide +kernel
theorem dX9_back_41 : decode cX9_back 41 = .ok (.aload_n 0, 1) := by decide +kernel
theorem dX9_back_42 : decode cX9_back 42 = .ok (.getfield 34, 3) := by decide +kernel
theorem dX9_back_45 : decode cX9_back 45 = .ok (.bipush 25, 2) := by decide +kernel
theorem dX9_back_47 : decode cX9_back 47 = .ok (.iload_n 1, 1) := by decide +kernel
theorem dX9_back_48 : decode cX9_back 48 = .ok (.imul, 1) := by decide +kernel
theorem dX9_back_49 : decode cX9_back 49 = .ok (.iload_n 2, 1) := by decide +kernel
theorem dX9_back_50 : decode cX9_back 50 = .ok (.iadd, 1) := by decide +kernel
theorem dX9_back_51 : decode cX9_back 51 = .ok (.iaload, 1) := by decide +kernel
theorem dX9_back_52 : decode cX9_back 52 = .ok (.iastore, 1) := by decide +kernel
theorem dX9_back_53 : decode cX9_back 53 = .ok (.iinc 2 1, 3) := by decide +kernel
theorem dX9_back_56 : decode cX9_back 56 = .ok (.goto (-26), 3) := by decide +kernel
theorem dX9_back_59 : decode cX9_back 59 = .ok (.aload_n 0, 1) := by decide +kernel
theorem dX9_back_60 : decode cX9_back 60 = .ok (.iconst 0, 1) := by decide +kernel
theorem dX9_back_61 : decode cX9_back 61 = .ok (.putfield 128, 3) := by decide +kernel
theorem dX9_back_64 : decode cX9_back 64 = .ok (.aload_n 0, 1) := by decide +kernel
theorem dX9_back_65 : decode cX9_back 65 = .ok (.getfield 28, 3) := by decide +kernel
theorem dX9_back_68 : decode cX9_back 68 = .ok (.bipush 24, 2) := by decide +kernel
theorem dX9_back_70 : decode cX9_back 70 = .ok (.iaload, 1) := by decide +kernel
theorem dX9_back_71 : decode cX9_back 71 = .ok (.ireturn, 1) := by decide +kernel
theorem dX9_count_0 : decode cX9_count 0 = .ok (.aload_n 0, 1) := by decide +kernel
theorem dX9_count_1 : decode cX9_count 1 = .ok (.iconst 0, 1) := by decide +kernel
theorem dX9_count_2 : decode cX9_count 2 = .ok (.putfield 62, 3) := by decide +kernel
theorem dX9_count_5 : decode cX9_count 5 = .ok (.iload_n 1, 1) := by decide +kernel
theorem dX9_count_6 : decode cX9_count 6 = .ok (.iconst 0, 1) := by decide +kernel
theorem dX9_count_7 : decode cX9_count 7 = .ok (.iconst 1, 1) := by decide +kernel
theorem dX9_count_8 : decode cX9_count 8 = .ok (.invokestatic 66, 3) := by decide +kernel
theorem dX9_count_11 : decode cX9_count 11 = .ok (.ifCond .eq 12, 3) := by decide +kernel
theorem dX9_count_14 : decode cX9_count 14 = .ok (.aload_n 0, 1) := by decide +kernel
theorem dX9_count_15 : decode cX9_count 15 = .ok (.getfield 13, 3) := by decide +kernel
theorem dX9_count_18 : decode cX9_count 18 = .ok (.iload_n 1, 1) := by decide +kernel
theorem dX9_count_19 : decode cX9_count 19 = .ok (.iaload, 1) := by decide +kernel
theorem dX9_count_20 : decode cX9_count 20 = .ok (.goto 40, 3) := by decide +kernel
theorem dX9_count_23 : decode cX9_count 23 = .ok (.iload_n 1, 1) := by decide +kernel
theorem dX9_count_24 : decode cX9_count 24 = .ok (.iconst 2, 1) := by decide +kernel
theorem dX9_count_25 : decode cX9_count 25 = .ok (.if_icmp .ne 10, 3) := by decide +kernel
theorem dX9_count_28 : decode cX9_count 28 = .ok (.aload_n 0, 1) := by decide +kernel
theorem dX9_count_29 : decode cX9_count 29 = .ok (.getfield 122, 3) := by decide +kernel
theorem dX9_count_32 : decode cX9_count 32 = .ok (.goto 28, 3) := by decide +kernel
theorem dX9_count_35 : decode cX9_count 35 = .ok (.iload_n 1, 1) := by decide +kernel
theorem dX9_count_36 : decode cX9_count 36 = .ok (.iconst 3, 1) := by decide +kernel
theorem dX9_count_37 : decode cX9_count 37 = .ok (.if_icmp .ne 10, 3) := by decide +kernel
theorem dX9_count_40 : decode cX9_count 40 = .ok (.aload_n 0, 1) := by decide +kernel
theorem dX9_count_41 : decode cX9_count 41 = .ok (.getfield 125, 3) := by decide +kernel
theorem dX9_count_44 : decode cX9_count 44 = .ok (.goto 16, 3) := by decide +kernel
theorem dX9_count_47 : decode cX9_count 47 = .ok (.iload_n 1, 1) := by decide +kernel
theorem dX9_count_48 : decode cX9_count 48 = .ok (.iconst 4, 1) := by decide +kernel
theorem dX9_count_49 : decode cX9_count 49 = .ok (.if_icmp .ne 10, 3) := by decide +kernel
theorem dX9_count_52 : decode cX9_count 52 = .ok (.aload_n 0, 1) := by decide +kernel
theorem dX9_count_53 : decode cX9_count 53 = .ok (.getfield 70, 3) := by decide +kernel
theorem dX9_count_56 : decode cX9_count 56 = .ok (.goto 4, 3) := by decide +kernel
theorem dX9_count_59 : decode cX9_count 59 = .ok (.iconst (-1), 1) := by decide +kernel
theorem dX9_count_60 : decode cX9_count 60 = .ok (.ireturn, 1) := by decide +kernel
theorem dX9_trace_0 : decode cX9_trace 0 = .ok (.aload_n 0, 1) := by decide +kernel
theorem dX9_trace_1 : decode cX9_trace 1 = .ok (.iconst 0, 1) := by decide +kernel
theorem dX9_trace_2 : decode cX9_trace 2 = .ok (.putfield 62, 3) := by decide +kernel
theorem dX9_trace_5 : decode cX9_trace 5 = .ok (.aload_n 0, 1) := by decide +kernel
theorem dX9_trace_6 : decode cX9_trace 6 = .ok (.getfield 232, 3) := by decide +kernel
theorem dX9_trace_9 : decode cX9_trace 9 = .ok (.lreturn, 1) := by decide +kernel
end
section
theorem dL_law_0 : decode cL_law 0 = .ok (.new 7, 3) := by decide +kernel
theorem dL_law_3 : decode cL_law 3 = .ok (.dup, 1) := by decide +kernel
theorem dL_law_4 : decode cL_law 4 = .ok (.invokespecial 9, 3) := by decide +kernel
theorem dL_law_7 : decode cL_law 7 = .ok (.astore_n 1, 1) := by decide +kernel
theorem dL_law_8 : decode cL_law 8 = .ok (.new 10, 3) := by decide +kernel
theorem dL_law_11 : decode cL_law 11 = .ok (.dup, 1) := by decide +kernel
theorem dL_law_12 : decode cL_law 12 = .ok (.invokespecial 12, 3) := by decide +kernel
theorem dL_law_15 : decode cL_law 15 = .ok (.astore_n 2, 1) := by decide +kernel
theorem dL_law_16 : decode cL_law 16 = .ok (.iconst 0, 1) := by decide +kernel
theorem dL_law_17 : decode cL_law 17 = .ok (.istore_n 3, 1) := by decide +kernel
theorem dL_law_18 : decode cL_law 18 = .ok (.iload_n 3, 1) := by decide +kernel
theorem dL_law_19 : decode cL_law 19 = .ok (.aload_n 0, 1) := by decide +kernel
theorem dL_law_20 : decode cL_law 20 = .ok (.arraylength, 1) := by decide +kernel
theorem dL_law_21 : decode cL_law 21 = .ok (.iconst 5, 1) := by decide +kernel
theorem dL_law_22 : decode cL_law 22 = .ok (.isub, 1) := by decide +kernel
theorem dL_law_23 : decode cL_law 23 = .ok (.if_icmp .gt 865, 3) := by decide +kernel
theorem dL_law_26 : decode cL_law 26 = .ok (.aload_n 0, 1) := by decide +kernel
theorem dL_law_27 : decode cL_law 27 = .ok (.iload_n 3, 1) := by decide +kernel
theorem dL_law_28 : decode cL_law 28 = .ok (.iaload, 1) := by decide +kernel
theorem dL_law_29 : decode cL_law 29 = .ok (.bipush 31, 2) := by decide +kernel
theorem dL_law_31 : decode cL_law 31 = .ok (.iand, 1) := by decide +kernel
theorem dL_law_32 : decode cL_law 32 = .ok (.tableswitch 850 0 28 #[132, 155, 168, 181, 214, 237, 270, 303, 326, 359, 382, 415, 448, 471, 484, 497, 520, 543, 576, 609, 622, 635, 658, 681, 734, 767, 790, 813, 836], 132) := by decide +kernel
theorem dL_law_164 : decode cL_law 164 = .ok (.aload_n 1, 1) := by decide +kernel
theorem dL_law_165 : decode cL_law 165 = .ok (.aload_n 0, 1) := by decide +kernel
theorem dL_law_166 : decode cL_law 166 = .ok (.iload_n 3, 1) := by decide +kernel
theorem dL_law_167 : decode cL_law 167 = .ok (.iconst 1, 1) := by decide +kernel
theorem dL_law_168 : decode cL_law 168 = .ok (.iadd, 1) := by decide +kernel
theorem dL_law_169 : decode cL_law 169 = .ok (.iaload, 1) := by decide +kernel
theorem dL_law_170 : decode cL_law 170 = .ok (.invokevirtual 13, 3) := by decide +kernel
theorem dL_law_173 : decode cL_law 173 = .ok (.aload_n 2, 1) := by decide +kernel
theorem dL_law_174 : decode cL_law 174 = .ok (.aload_n 0, 1) := by decide +kernel
theorem dL_law_175 : decode cL_law 175 = .ok (.iload_n 3, 1) := by decide +kernel
theorem dL_law_176 : decode cL_law 176 = .ok (.iconst 1, 1) := by decide +kernel
theorem dL_law_177 : decode cL_law 177 = .ok (.iadd, 1) := by decide +kernel
theorem dL_law_178 : decode cL_law 178 = .ok (.iaload, 1) := by decide +kernel
theorem dL_law_179 : decode cL_law 179 = .ok (.invokevirtual 17, 3) := by decide +kernel
theorem dL_law_182 : decode cL_law 182 = .ok (.if_icmp .eq 700, 3) := by decide +kernel
theorem dL_law_185 : decode cL_law 185 = .ok (.iconst 0, 1) := by decide +kernel
theorem dL_law_186 : decode cL_law 186 = .ok (.ireturn, 1) := by decide +kernel
theorem dL_law_187 : decode cL_law 187 = .ok (.aload_n 1, 1) := by decide +kernel
theorem dL_law_188 : decode cL_law 188 = .ok (.invokevirtual 18, 3) := by decide +kernel
theorem dL_law_191 : decode cL_law 191 = .ok (.aload_n 2, 1) := by decide +kernel
theorem dL_law_192 : decode cL_law 192 = .ok (.invokevirtual 22, 3) := by decide +kernel
theorem dL_law_195 : decode cL_law 195 = .ok (.if_icmp .eq 687, 3) := by decide +kernel
theorem dL_law_198 : decode cL_law 198 = .ok (.iconst 0, 1) := by decide +kernel
theorem dL_law_199 : decode cL_law 199 = .ok (.ireturn, 1) := by decide +kernel
theorem dL_law_200 : decode cL_law 200 = .ok (.aload_n 1, 1) := by decide +kernel
theorem dL_law_201 : decode cL_law 201 = .ok (.invokevirtual 23, 3) := by decide +kernel
theorem dL_law_204 : decode cL_law 204 = .ok (.aload_n 2, 1) := by decide +kernel
theorem dL_law_205 : decode cL_law 205 = .ok (.invokevirtual 26, 3) := by decide +kernel
theorem dL_law_208 : decode cL_law 208 = .ok (.if_icmp .eq 674, 3) := by decide +kernel
theorem dL_law_211 : decode cL_law 211 = .ok (.iconst 0, 1) := by decide +kernel
theorem dL_law_212 : decode cL_law 212 = .ok (.ireturn, 1) := by decide +kernel
theorem dL_law_213 : decode cL_law 213 = .ok (.aload_n 1, 1) := by decide +kernel
theorem dL_law_214 : decode cL_law 214 = .ok (.aload_n 0, 1) := by decide +kernel
theorem dL_law_215 : decode cL_law 215 = .ok (.iload_n 3, 1) := by decide +kernel
theorem dL_law_216 : decode cL_law 216 = .ok (.iconst 1, 1) := by decide +kernel
theorem dL_law_217 : decode cL_law 217 = .ok (.iadd, 1) := by decide +kernel
theorem dL_law_218 : decode cL_law 218 = .ok (.iaload, 1) := by decide +kernel
theorem dL_law_219 : decode cL_law 219 = .ok (.aload_n 0, 1) := by decide +kernel
theorem dL_law_220 : decode cL_law 220 = .ok (.iload_n 3, 1) := by decide +kernel
theorem dL_law_221 : decode cL_law 221 = .ok (.iconst 2, 1) := by decide +kernel
theorem dL_law_222 : decode cL_law 222 = .ok (.iadd, 1) := by decide +kernel
theorem dL_law_223 : decode cL_law 223 = .ok (.iaload, 1) := by decide +kernel
theorem dL_law_224 : decode cL_law 224 = .ok (.invokevirtual 27, 3) := by decide +kernel
theorem dL_law_227 : decode cL_law 227 = .ok (.aload_n 2, 1) := by decide +kernel
theorem dL_law_228 : decode cL_law 228 = .ok (.aload_n 0, 1) := by decide +kernel
theorem dL_law_229 : decode cL_law 229 = .ok (.iload_n 3, 1) := by decide +kernel
theorem dL_law_230 : decode cL_law 230 = .ok (.iconst 1, 1) := by decide +kernel
theorem dL_law_231 : decode cL_law 231 = .ok (.iadd, 1) := by decide +kernel
theorem dL_law_232 : decode cL_law 232 = .ok (.iaload, 1) := by decide +kernel
theorem dL_law_233 : decode cL_law 233 = .ok (.aload_n 0, 1) := by decide +kernel
theorem dL_law_234 : decode cL_law 234 = .ok (.iload_n 3, 1) := by decide +kernel
theorem dL_law_235 : decode cL_law 235 = .ok (.iconst 2, 1) := by decide +kernel
theorem dL_law_236 : decode cL_law 236 = .ok (.iadd, 1) := by decide +kernel
theorem dL_law_237 : decode cL_law 237 = .ok (.iaload, 1) := by decide +kernel
theorem dL_law_238 : decode cL_law 238 = .ok (.invokevirtual 31, 3) := by decide +kernel
theorem dL_law_241 : decode cL_law 241 = .ok (.if_icmp .eq 641, 3) := by decide +kernel
theorem dL_law_244 : decode cL_law 244 = .ok (.iconst 0, 1) := by decide +kernel
theorem dL_law_245 : decode cL_law 245 = .ok (.ireturn, 1) := by decide +kernel
theorem dL_law_246 : decode cL_law 246 = .ok (.aload_n 1, 1) := by decide +kernel
theorem dL_law_247 : decode cL_law 247 = .ok (.aload_n 0, 1) := by decide +kernel
theorem dL_law_248 : decode cL_law 248 = .ok (.iload_n 3, 1) := by decide +kernel
theorem dL_law_249 : decode cL_law 249 = .ok (.iconst 1, 1) := by decide +kernel
theorem dL_law_250 : decode cL_law 250 = .ok (.iadd, 1) := by decide +kernel
theorem dL_law_251 : decode cL_law 251 = .ok (.iaload, 1) := by decide +kernel
theorem dL_law_252 : decode cL_law 252 = .ok (.invokevirtual 32, 3) := by decide +kernel
theorem dL_law_255 : decode cL_law 255 = .ok (.aload_n 2, 1) := by decide +kernel
theorem dL_law_256 : decode cL_law 256 = .ok (.aload_n 0, 1) := by decide +kernel
theorem dL_law_257 : decode cL_law 257 = .ok (.iload_n 3, 1) := by decide +kernel
theorem dL_law_258 : decode cL_law 258 = .ok (.iconst 1, 1) := by decide +kernel
theorem dL_law_259 : decode cL_law 259 = .ok (.iadd, 1) := by decide +kernel
theorem dL_law_260 : decode cL_law 260 = .ok (.iaload, 1) := by decide +kernel
theorem dL_law_261 : decode cL_law 261 = .ok (.invokevirtual 35, 3) := by decide +kernel
theorem dL_law_264 : decode cL_law 264 = .ok (.if_icmp .eq 618, 3) := by decide +kernel
theorem dL_law_267 : decode cL_law 267 = .ok (.iconst 0, 1) := by decide +kernel
theorem dL_law_268 : decode cL_law 268 = .ok (.ireturn, 1) := by decide +kernel
theorem dL_law_269 : decode cL_law 269 = .ok (.aload_n 1, 1) := by decide +kernel
theorem dL_law_270 : decode cL_law 270 = .ok (.aload_n 0, 1) := by decide +kernel
theorem dL_law_271 : decode cL_law 271 = .ok (.iload_n 3, 1) := by decide +kernel
theorem dL_law_272 : decode cL_law 272 = .ok (.iconst 1, 1) := by decide +kernel
theorem dL_law_273 : decode cL_law 273 = .ok (.iadd, 1) := by decide +kernel
theorem dL_law_274 : decode cL_law 274 = .ok (.iaload, 1) := by decide +kernel
theorem dL_law_275 : decode cL_law 275 = .ok (.aload_n 0, 1) := by decide +kernel
theorem dL_law_276 : decode cL_law 276 = .ok (.iload_n 3, 1) := by decide +kernel
theorem dL_law_277 : decode cL_law 277 = .ok (.iconst 2, 1) := by decide +kernel
theorem dL_law_278 : decode cL_law 278 = .ok (.iadd, 1) := by decide +kernel
theorem dL_law_279 : decode cL_law 279 = .ok (.iaload, 1) := by decide +kernel
theorem dL_law_280 : decode cL_law 280 = .ok (.invokevirtual 36, 3) := by decide +kernel
theorem dL_law_283 : decode cL_law 283 = .ok (.aload_n 2, 1) := by decide +kernel
theorem dL_law_284 : decode cL_law 284 = .ok (.aload_n 0, 1) := by decide +kernel
theorem dL_law_285 : decode cL_law 285 = .ok (.iload_n 3, 1) := by decide +kernel
theorem dL_law_286 : decode cL_law 286 = .ok (.iconst 1, 1) := by decide +kernel
theorem dL_law_287 : decode cL_law 287 = .ok (.iadd, 1) := by decide +kernel
theorem dL_law_288 : decode cL_law 288 = .ok (.iaload, 1) := by decide +kernel
theorem dL_law_289 : decode cL_law 289 = .ok (.aload_n 0, 1) := by decide +kernel
theorem dL_law_290 : decode cL_law 290 = .ok (.iload_n 3, 1) := by decide +kernel
theorem dL_law_291 : decode cL_law 291 = .ok (.iconst 2, 1) := by decide +kernel
theorem dL_law_292 : decode cL_law 292 = .ok (.iadd, 1) := by decide +kernel
theorem dL_law_293 : decode cL_law 293 = .ok (.iaload, 1) := by decide +kernel
theorem dL_law_294 : decode cL_law 294 = .ok (.invokevirtual 39, 3) := by decide +kernel
theorem dL_law_297 : decode cL_law 297 = .ok (.if_icmp .eq 585, 3) := by decide +kernel
theorem dL_law_300 : decode cL_law 300 = .ok (.iconst 0, 1) := by decide +kernel
theorem dL_law_301 : decode cL_law 301 = .ok (.ireturn, 1) := by decide +kernel
theorem dL_law_302 : decode cL_law 302 = .ok (.aload_n 1, 1) := by decide +kernel
theorem dL_law_303 : decode cL_law 303 = .ok (.aload_n 0, 1) := by decide +kernel
theorem dL_law_304 : decode cL_law 304 = .ok (.iload_n 3, 1) := by decide +kernel
theorem dL_law_305 : decode cL_law 305 = .ok (.iconst 1, 1) := by decide +kernel
theorem dL_law_306 : decode cL_law 306 = .ok (.iadd, 1) := by decide +kernel
theorem dL_law_307 : decode cL_law 307 = .ok (.iaload, 1) := by decide +kernel
theorem dL_law_308 : decode cL_law 308 = .ok (.aload_n 0, 1) := by decide +kernel
theorem dL_law_309 : decode cL_law 309 = .ok (.iload_n 3, 1) := by decide +kernel
theorem dL_law_310 : decode cL_law 310 = .ok (.iconst 2, 1) := by decide +kernel
theorem dL_law_311 : decode cL_law 311 = .ok (.iadd, 1) := by decide +kernel
theorem dL_law_312 : decode cL_law 312 = .ok (.iaload, 1) := by decide +kernel
theorem dL_law_313 : decode cL_law 313 = .ok (.invokevirtual 40, 3) := by decide +kernel
theorem dL_law_316 : decode cL_law 316 = .ok (.aload_n 2, 1) := by decide +kernel
theorem dL_law_317 : decode cL_law 317 = .ok (.aload_n 0, 1) := by decide +kernel
theorem dL_law_318 : decode cL_law 318 = .ok (.iload_n 3, 1) := by decide +kernel
theorem dL_law_319 : decode cL_law 319 = .ok (.iconst 1, 1) := by decide +kernel
theorem dL_law_320 : decode cL_law 320 = .ok (.iadd, 1) := by decide +kernel
theorem dL_law_321 : decode cL_law 321 = .ok (.iaload, 1) := by decide +kernel
theorem dL_law_322 : decode cL_law 322 = .ok (.aload_n 0, 1) := by decide +kernel
theorem dL_law_323 : decode cL_law 323 = .ok (.iload_n 3, 1) := by decide +kernel
theorem dL_law_324 : decode cL_law 324 = .ok (.iconst 2, 1) := by decide +kernel
theorem dL_law_325 : decode cL_law 325 = .ok (.iadd, 1) := by decide +kernel
theorem dL_law_326 : decode cL_law 326 = .ok (.iaload, 1) := by decide +kernel
theorem dL_law_327 : decode cL_law 327 = .ok (.invokevirtual 43, 3) := by decide +kernel
theorem dL_law_330 : decode cL_law 330 = .ok (.if_icmp .eq 552, 3) := by decide +kernel
theorem dL_law_333 : decode cL_law 333 = .ok (.iconst 0, 1) := by decide +kernel
theorem dL_law_334 : decode cL_law 334 = .ok (.ireturn, 1) := by decide +kernel
theorem dL_law_335 : decode cL_law 335 = .ok (.aload_n 1, 1) := by decide +kernel
theorem dL_law_336 : decode cL_law 336 = .ok (.aload_n 0, 1) := by decide +kernel
theorem dL_law_337 : decode cL_law 337 = .ok (.iload_n 3, 1) := by decide +kernel
theorem dL_law_338 : decode cL_law 338 = .ok (.iconst 1, 1) := by decide +kernel
theorem dL_law_339 : decode cL_law 339 = .ok (.iadd, 1) := by decide +kernel
theorem dL_law_340 : decode cL_law 340 = .ok (.iaload, 1) := by decide +kernel
theorem dL_law_341 : decode cL_law 341 = .ok (.invokevirtual 44, 3) := by decide +kernel
theorem dL_law_344 : decode cL_law 344 = .ok (.aload_n 2, 1) := by decide +kernel
theorem dL_law_345 : decode cL_law 345 = .ok (.aload_n 0, 1) := by decide +kernel
theorem dL_law_346 : decode cL_law 346 = .ok (.iload_n 3, 1) := by decide +kernel
theorem dL_law_347 : decode cL_law 347 = .ok (.iconst 1, 1) := by decide +kernel
theorem dL_law_348 : decode cL_law 348 = .ok (.iadd, 1) := by decide +kernel
theorem dL_law_349 : decode cL_law 349 = .ok (.iaload, 1) := by decide +kernel
theorem dL_law_350 : decode cL_law 350 = .ok (.invokevirtual 47, 3) := by decide +kernel
theorem dL_law_353 : decode cL_law 353 = .ok (.if_icmp .eq 529, 3) := by decide +kernel
theorem dL_law_356 : decode cL_law 356 = .ok (.iconst 0, 1) := by decide +kernel
theorem dL_law_357 : decode cL_law 357 = .ok (.ireturn, 1) := by decide +kernel
theorem dL_law_358 : decode cL_law 358 = .ok (.aload_n 1, 1) := by decide +kernel
theorem dL_law_359 : decode cL_law 359 = .ok (.aload_n 0, 1) := by decide +kernel
theorem dL_law_360 : decode cL_law 360 = .ok (.iload_n 3, 1) := by decide +kernel
theorem dL_law_361 : decode cL_law 361 = .ok (.iconst 1, 1) := by decide +kernel
theorem dL_law_362 : decode cL_law 362 = .ok (.iadd, 1) := by decide +kernel
theorem dL_law_363 : decode cL_law 363 = .ok (.iaload, 1) := by decide +kernel
theorem dL_law_364 : decode cL_law 364 = .ok (.aload_n 0, 1) := by decide +kernel
theorem dL_law_365 : decode cL_law 365 = .ok (.iload_n 3, 1) := by decide +kernel
theorem dL_law_366 : decode cL_law 366 = .ok (.iconst 2, 1) := by decide +kernel
theorem dL_law_367 : decode cL_law 367 = .ok (.iadd, 1) := by decide +kernel
theorem dL_law_368 : decode cL_law 368 = .ok (.iaload, 1) := by decide +kernel
theorem dL_law_369 : decode cL_law 369 = .ok (.invokevirtual 48, 3) := by decide +kernel
theorem dL_law_372 : decode cL_law 372 = .ok (.aload_n 2, 1) := by decide +kernel
theorem dL_law_373 : decode cL_law 373 = .ok (.aload_n 0, 1) := by decide +kernel
theorem dL_law_374 : decode cL_law 374 = .ok (.iload_n 3, 1) := by decide +kernel
theorem dL_law_375 : decode cL_law 375 = .ok (.iconst 1, 1) := by decide +kernel
theorem dL_law_376 : decode cL_law 376 = .ok (.iadd, 1) := by decide +kernel
theorem dL_law_377 : decode cL_law 377 = .ok (.iaload, 1) := by decide +kernel
theorem dL_law_378 : decode cL_law 378 = .ok (.aload_n 0, 1) := by decide +kernel
theorem dL_law_379 : decode cL_law 379 = .ok (.iload_n 3, 1) := by decide +kernel
theorem dL_law_380 : decode cL_law 380 = .ok (.iconst 2, 1) := by decide +kernel
theorem dL_law_381 : decode cL_law 381 = .ok (.iadd, 1) := by decide +kernel
theorem dL_law_382 : decode cL_law 382 = .ok (.iaload, 1) := by decide +kernel
theorem dL_law_383 : decode cL_law 383 = .ok (.invokevirtual 51, 3) := by decide +kernel
theorem dL_law_386 : decode cL_law 386 = .ok (.if_icmp .eq 496, 3) := by decide +kernel
theorem dL_law_389 : decode cL_law 389 = .ok (.iconst 0, 1) := by decide +kernel
theorem dL_law_390 : decode cL_law 390 = .ok (.ireturn, 1) := by decide +kernel
theorem dL_law_391 : decode cL_law 391 = .ok (.aload_n 1, 1) := by decide +kernel
theorem dL_law_392 : decode cL_law 392 = .ok (.aload_n 0, 1) := by decide +kernel
theorem dL_law_393 : decode cL_law 393 = .ok (.iload_n 3, 1) := by decide +kernel
theorem dL_law_394 : decode cL_law 394 = .ok (.iconst 1, 1) := by decide +kernel
theorem dL_law_395 : decode cL_law 395 = .ok (.iadd, 1) := by decide +kernel
theorem dL_law_396 : decode cL_law 396 = .ok (.iaload, 1) := by decide +kernel
theorem dL_law_397 : decode cL_law 397 = .ok (.invokevirtual 52, 3) := by decide +kernel
theorem dL_law_400 : decode cL_law 400 = .ok (.aload_n 2, 1) := by decide +kernel
theorem dL_law_401 : decode cL_law 401 = .ok (.aload_n 0, 1) := by decide +kernel
theorem dL_law_402 : decode cL_law 402 = .ok (.iload_n 3, 1) := by decide +kernel
theorem dL_law_403 : decode cL_law 403 = .ok (.iconst 1, 1) := by decide +kernel
theorem dL_law_404 : decode cL_law 404 = .ok (.iadd, 1) := by decide +kernel
theorem dL_law_405 : decode cL_law 405 = .ok (.iaload, 1) := by decide +kernel
theorem dL_law_406 : decode cL_law 406 = .ok (.invokevirtual 55, 3) := by decide +kernel
theorem dL_law_409 : decode cL_law 409 = .ok (.if_icmp .eq 473, 3) := by decide +kernel
theorem dL_law_412 : decode cL_law 412 = .ok (.iconst 0, 1) := by decide +kernel
theorem dL_law_413 : decode cL_law 413 = .ok (.ireturn, 1) := by decide +kernel
theorem dL_law_414 : decode cL_law 414 = .ok (.aload_n 1, 1) := by decide +kernel
theorem dL_law_415 : decode cL_law 415 = .ok (.aload_n 0, 1) := by decide +kernel
theorem dL_law_416 : decode cL_law 416 = .ok (.iload_n 3, 1) := by decide +kernel
theorem dL_law_417 : decode cL_law 417 = .ok (.iconst 1, 1) := by decide +kernel
theorem dL_law_418 : decode cL_law 418 = .ok (.iadd, 1) := by decide +kernel
theorem dL_law_419 : decode cL_law 419 = .ok (.iaload, 1) := by decide +kernel
theorem dL_law_420 : decode cL_law 420 = .ok (.aload_n 0, 1) := by decide +kernel
theorem dL_law_421 : decode cL_law 421 = .ok (.iload_n 3, 1) := by decide +kernel
theorem dL_law_422 : decode cL_law 422 = .ok (.iconst 2, 1) := by decide +kernel
theorem dL_law_423 : decode cL_law 423 = .ok (.iadd, 1) := by decide +kernel
theorem dL_law_424 : decode cL_law 424 = .ok (.iaload, 1) := by decide +kernel
theorem dL_law_425 : decode cL_law 425 = .ok (.invokevirtual 56, 3) := by decide +kernel
theorem dL_law_428 : decode cL_law 428 = .ok (.aload_n 2, 1) := by decide +kernel
theorem dL_law_429 : decode cL_law 429 = .ok (.aload_n 0, 1) := by decide +kernel
theorem dL_law_430 : decode cL_law 430 = .ok (.iload_n 3, 1) := by decide +kernel
theorem dL_law_431 : decode cL_law 431 = .ok (.iconst 1, 1) := by decide +kernel
theorem dL_law_432 : decode cL_law 432 = .ok (.iadd, 1) := by decide +kernel
theorem dL_law_433 : decode cL_law 433 = .ok (.iaload, 1) := by decide +kernel
theorem dL_law_434 : decode cL_law 434 = .ok (.aload_n 0, 1) := by decide +kernel
theorem dL_law_435 : decode cL_law 435 = .ok (.iload_n 3, 1) := by decide +kernel
theorem dL_law_436 : decode cL_law 436 = .ok (.iconst 2, 1) := by decide +kernel
theorem dL_law_437 : decode cL_law 437 = .ok (.iadd, 1) := by decide +kernel
theorem dL_law_438 : decode cL_law 438 = .ok (.iaload, 1) := by decide +kernel
theorem dL_law_439 : decode cL_law 439 = .ok (.invokevirtual 59, 3) := by decide +kernel
theorem dL_law_442 : decode cL_law 442 = .ok (.if_icmp .eq 440, 3) := by decide +kernel
theorem dL_law_445 : decode cL_law 445 = .ok (.iconst 0, 1) := by decide +kernel
theorem dL_law_446 : decode cL_law 446 = .ok (.ireturn, 1) := by decide +kernel
theorem dL_law_447 : decode cL_law 447 = .ok (.aload_n 1, 1) := by decide +kernel
theorem dL_law_448 : decode cL_law 448 = .ok (.aload_n 0, 1) := by decide +kernel
theorem dL_law_449 : decode cL_law 449 = .ok (.iload_n 3, 1) := by decide +kernel
theorem dL_law_450 : decode cL_law 450 = .ok (.iconst 1, 1) := by decide +kernel
theorem dL_law_451 : decode cL_law 451 = .ok (.iadd, 1) := by decide +kernel
theorem dL_law_452 : decode cL_law 452 = .ok (.iaload, 1) := by decide +kernel
theorem dL_law_453 : decode cL_law 453 = .ok (.aload_n 0, 1) := by decide +kernel
theorem dL_law_454 : decode cL_law 454 = .ok (.iload_n 3, 1) := by decide +kernel
theorem dL_law_455 : decode cL_law 455 = .ok (.iconst 2, 1) := by decide +kernel
theorem dL_law_456 : decode cL_law 456 = .ok (.iadd, 1) := by decide +kernel
theorem dL_law_457 : decode cL_law 457 = .ok (.iaload, 1) := by decide +kernel
theorem dL_law_458 : decode cL_law 458 = .ok (.invokevirtual 60, 3) := by decide +kernel
theorem dL_law_461 : decode cL_law 461 = .ok (.aload_n 2, 1) := by decide +kernel
theorem dL_law_462 : decode cL_law 462 = .ok (.aload_n 0, 1) := by decide +kernel
theorem dL_law_463 : decode cL_law 463 = .ok (.iload_n 3, 1) := by decide +kernel
theorem dL_law_464 : decode cL_law 464 = .ok (.iconst 1, 1) := by decide +kernel
theorem dL_law_465 : decode cL_law 465 = .ok (.iadd, 1) := by decide +kernel
theorem dL_law_466 : decode cL_law 466 = .ok (.iaload, 1) := by decide +kernel
theorem dL_law_467 : decode cL_law 467 = .ok (.aload_n 0, 1) := by decide +kernel
theorem dL_law_468 : decode cL_law 468 = .ok (.iload_n 3, 1) := by decide +kernel
theorem dL_law_469 : decode cL_law 469 = .ok (.iconst 2, 1) := by decide +kernel
theorem dL_law_470 : decode cL_law 470 = .ok (.iadd, 1) := by decide +kernel
theorem dL_law_471 : decode cL_law 471 = .ok (.iaload, 1) := by decide +kernel
theorem dL_law_472 : decode cL_law 472 = .ok (.invokevirtual 63, 3) := by decide +kernel
theorem dL_law_475 : decode cL_law 475 = .ok (.if_icmp .eq 407, 3) := by decide +kernel
theorem dL_law_478 : decode cL_law 478 = .ok (.iconst 0, 1) := by decide +kernel
theorem dL_law_479 : decode cL_law 479 = .ok (.ireturn, 1) := by decide +kernel
theorem dL_law_480 : decode cL_law 480 = .ok (.aload_n 1, 1) := by decide +kernel
theorem dL_law_481 : decode cL_law 481 = .ok (.aload_n 0, 1) := by decide +kernel
theorem dL_law_482 : decode cL_law 482 = .ok (.iload_n 3, 1) := by decide +kernel
theorem dL_law_483 : decode cL_law 483 = .ok (.iconst 1, 1) := by decide +kernel
theorem dL_law_484 : decode cL_law 484 = .ok (.iadd, 1) := by decide +kernel
theorem dL_law_485 : decode cL_law 485 = .ok (.iaload, 1) := by decide +kernel
theorem dL_law_486 : decode cL_law 486 = .ok (.invokevirtual 64, 3) := by decide +kernel
theorem dL_law_489 : decode cL_law 489 = .ok (.aload_n 2, 1) := by decide +kernel
theorem dL_law_490 : decode cL_law 490 = .ok (.aload_n 0, 1) := by decide +kernel
theorem dL_law_491 : decode cL_law 491 = .ok (.iload_n 3, 1) := by decide +kernel
theorem dL_law_492 : decode cL_law 492 = .ok (.iconst 1, 1) := by decide +kernel
theorem dL_law_493 : decode cL_law 493 = .ok (.iadd, 1) := by decide +kernel
theorem dL_law_494 : decode cL_law 494 = .ok (.iaload, 1) := by decide +kernel
theorem dL_law_495 : decode cL_law 495 = .ok (.invokevirtual 67, 3) := by decide +kernel
theorem dL_law_498 : decode cL_law 498 = .ok (.if_icmp .eq 384, 3) := by decide +kernel
theorem dL_law_501 : decode cL_law 501 = .ok (.iconst 0, 1) := by decide +kernel
theorem dL_law_502 : decode cL_law 502 = .ok (.ireturn, 1) := by decide +kernel
theorem dL_law_503 : decode cL_law 503 = .ok (.aload_n 1, 1) := by decide +kernel
theorem dL_law_504 : decode cL_law 504 = .ok (.invokevirtual 68, 3) := by decide +kernel
theorem dL_law_507 : decode cL_law 507 = .ok (.aload_n 2, 1) := by decide +kernel
theorem dL_law_508 : decode cL_law 508 = .ok (.invokevirtual 71, 3) := by decide +kernel
theorem dL_law_511 : decode cL_law 511 = .ok (.if_icmp .eq 371, 3) := by decide +kernel
theorem dL_law_514 : decode cL_law 514 = .ok (.iconst 0, 1) := by decide +kernel
theorem dL_law_515 : decode cL_law 515 = .ok (.ireturn, 1) := by decide +kernel
theorem dL_law_516 : decode cL_law 516 = .ok (.aload_n 1, 1) := by decide +kernel
theorem dL_law_517 : decode cL_law 517 = .ok (.invokevirtual 72, 3) := by decide +kernel
theorem dL_law_520 : decode cL_law 520 = .ok (.aload_n 2, 1) := by decide +kernel
theorem dL_law_521 : decode cL_law 521 = .ok (.invokevirtual 75, 3) := by decide +kernel
theorem dL_law_524 : decode cL_law 524 = .ok (.if_icmp .eq 358, 3) := by decide +kernel
theorem dL_law_527 : decode cL_law 527 = .ok (.iconst 0, 1) := by decide +kernel
theorem dL_law_528 : decode cL_law 528 = .ok (.ireturn, 1) := by decide +kernel
theorem dL_law_529 : decode cL_law 529 = .ok (.aload_n 1, 1) := by decide +kernel
theorem dL_law_530 : decode cL_law 530 = .ok (.aload_n 0, 1) := by decide +kernel
theorem dL_law_531 : decode cL_law 531 = .ok (.iload_n 3, 1) := by decide +kernel
theorem dL_law_532 : decode cL_law 532 = .ok (.iconst 1, 1) := by decide +kernel
theorem dL_law_533 : decode cL_law 533 = .ok (.iadd, 1) := by decide +kernel
theorem dL_law_534 : decode cL_law 534 = .ok (.iaload, 1) := by decide +kernel
theorem dL_law_535 : decode cL_law 535 = .ok (.invokevirtual 76, 3) := by decide +kernel
theorem dL_law_538 : decode cL_law 538 = .ok (.aload_n 2, 1) := by decide +kernel
theorem dL_law_539 : decode cL_law 539 = .ok (.aload_n 0, 1) := by decide +kernel
theorem dL_law_540 : decode cL_law 540 = .ok (.iload_n 3, 1) := by decide +kernel
theorem dL_law_541 : decode cL_law 541 = .ok (.iconst 1, 1) := by decide +kernel
theorem dL_law_542 : decode cL_law 542 = .ok (.iadd, 1) := by decide +kernel
theorem dL_law_543 : decode cL_law 543 = .ok (.iaload, 1) := by decide +kernel
theorem dL_law_544 : decode cL_law 544 = .ok (.invokevirtual 79, 3) := by decide +kernel
theorem dL_law_547 : decode cL_law 547 = .ok (.if_icmp .eq 335, 3) := by decide +kernel
theorem dL_law_550 : decode cL_law 550 = .ok (.iconst 0, 1) := by decide +kernel
theorem dL_law_551 : decode cL_law 551 = .ok (.ireturn, 1) := by decide +kernel
theorem dL_law_552 : decode cL_law 552 = .ok (.aload_n 1, 1) := by decide +kernel
theorem dL_law_553 : decode cL_law 553 = .ok (.aload_n 0, 1) := by decide +kernel
theorem dL_law_554 : decode cL_law 554 = .ok (.iload_n 3, 1) := by decide +kernel
theorem dL_law_555 : decode cL_law 555 = .ok (.iconst 1, 1) := by decide +kernel
theorem dL_law_556 : decode cL_law 556 = .ok (.iadd, 1) := by decide +kernel
theorem dL_law_557 : decode cL_law 557 = .ok (.iaload, 1) := by decide +kernel
theorem dL_law_558 : decode cL_law 558 = .ok (.invokevirtual 80, 3) := by decide +kernel
theorem dL_law_561 : decode cL_law 561 = .ok (.aload_n 2, 1) := by decide +kernel
theorem dL_law_562 : decode cL_law 562 = .ok (.aload_n 0, 1) := by decide +kernel
theorem dL_law_563 : decode cL_law 563 = .ok (.iload_n 3, 1) := by decide +kernel
theorem dL_law_564 : decode cL_law 564 = .ok (.iconst 1, 1) := by decide +kernel
theorem dL_law_565 : decode cL_law 565 = .ok (.iadd, 1) := by decide +kernel
theorem dL_law_566 : decode cL_law 566 = .ok (.iaload, 1) := by decide +kernel
theorem dL_law_567 : decode cL_law 567 = .ok (.invokevirtual 83, 3) := by decide +kernel
theorem dL_law_570 : decode cL_law 570 = .ok (.if_icmp .eq 312, 3) := by decide +kernel
theorem dL_law_573 : decode cL_law 573 = .ok (.iconst 0, 1) := by decide +kernel
theorem dL_law_574 : decode cL_law 574 = .ok (.ireturn, 1) := by decide +kernel
theorem dL_law_575 : decode cL_law 575 = .ok (.aload_n 1, 1) := by decide +kernel
theorem dL_law_576 : decode cL_law 576 = .ok (.aload_n 0, 1) := by decide +kernel
theorem dL_law_577 : decode cL_law 577 = .ok (.iload_n 3, 1) := by decide +kernel
theorem dL_law_578 : decode cL_law 578 = .ok (.iconst 1, 1) := by decide +kernel
theorem dL_law_579 : decode cL_law 579 = .ok (.iadd, 1) := by decide +kernel
theorem dL_law_580 : decode cL_law 580 = .ok (.iaload, 1) := by decide +kernel
theorem dL_law_581 : decode cL_law 581 = .ok (.aload_n 0, 1) := by decide +kernel
theorem dL_law_582 : decode cL_law 582 = .ok (.iload_n 3, 1) := by decide +kernel
theorem dL_law_583 : decode cL_law 583 = .ok (.iconst 2, 1) := by decide +kernel
theorem dL_law_584 : decode cL_law 584 = .ok (.iadd, 1) := by decide +kernel
theorem dL_law_585 : decode cL_law 585 = .ok (.iaload, 1) := by decide +kernel
theorem dL_law_586 : decode cL_law 586 = .ok (.invokevirtual 84, 3) := by decide +kernel
theorem dL_law_589 : decode cL_law 589 = .ok (.aload_n 2, 1) := by decide +kernel
theorem dL_law_590 : decode cL_law 590 = .ok (.aload_n 0, 1) := by decide +kernel
theorem dL_law_591 : decode cL_law 591 = .ok (.iload_n 3, 1) := by decide +kernel
theorem dL_law_592 : decode cL_law 592 = .ok (.iconst 1, 1) := by decide +kernel
theorem dL_law_593 : decode cL_law 593 = .ok (.iadd, 1) := by decide +kernel
theorem dL_law_594 : decode cL_law 594 = .ok (.iaload, 1) := by decide +kernel
theorem dL_law_595 : decode cL_law 595 = .ok (.aload_n 0, 1) := by decide +kernel
theorem dL_law_596 : decode cL_law 596 = .ok (.iload_n 3, 1) := by decide +kernel
theorem dL_law_597 : decode cL_law 597 = .ok (.iconst 2, 1) := by decide +kernel
theorem dL_law_598 : decode cL_law 598 = .ok (.iadd, 1) := by decide +kernel
theorem dL_law_599 : decode cL_law 599 = .ok (.iaload, 1) := by decide +kernel
theorem dL_law_600 : decode cL_law 600 = .ok (.invokevirtual 87, 3) := by decide +kernel
theorem dL_law_603 : decode cL_law 603 = .ok (.if_icmp .eq 279, 3) := by decide +kernel
theorem dL_law_606 : decode cL_law 606 = .ok (.iconst 0, 1) := by decide +kernel
theorem dL_law_607 : decode cL_law 607 = .ok (.ireturn, 1) := by decide +kernel
theorem dL_law_608 : decode cL_law 608 = .ok (.aload_n 1, 1) := by decide +kernel
theorem dL_law_609 : decode cL_law 609 = .ok (.aload_n 0, 1) := by decide +kernel
theorem dL_law_610 : decode cL_law 610 = .ok (.iload_n 3, 1) := by decide +kernel
theorem dL_law_611 : decode cL_law 611 = .ok (.iconst 1, 1) := by decide +kernel
theorem dL_law_612 : decode cL_law 612 = .ok (.iadd, 1) := by decide +kernel
theorem dL_law_613 : decode cL_law 613 = .ok (.iaload, 1) := by decide +kernel
theorem dL_law_614 : decode cL_law 614 = .ok (.aload_n 0, 1) := by decide +kernel
theorem dL_law_615 : decode cL_law 615 = .ok (.iload_n 3, 1) := by decide +kernel
theorem dL_law_616 : decode cL_law 616 = .ok (.iconst 2, 1) := by decide +kernel
theorem dL_law_617 : decode cL_law 617 = .ok (.iadd, 1) := by decide +kernel
theorem dL_law_618 : decode cL_law 618 = .ok (.iaload, 1) := by decide +kernel
theorem dL_law_619 : decode cL_law 619 = .ok (.invokevirtual 88, 3) := by decide +kernel
theorem dL_law_622 : decode cL_law 622 = .ok (.aload_n 2, 1) := by decide +kernel
theorem dL_law_623 : decode cL_law 623 = .ok (.aload_n 0, 1) := by decide +kernel
theorem dL_law_624 : decode cL_law 624 = .ok (.iload_n 3, 1) := by decide +kernel
theorem dL_law_625 : decode cL_law 625 = .ok (.iconst 1, 1) := by decide +kernel
theorem dL_law_626 : decode cL_law 626 = .ok (.iadd, 1) := by decide +kernel
theorem dL_law_627 : decode cL_law 627 = .ok (.iaload, 1) := by decide +kernel
theorem dL_law_628 : decode cL_law 628 = .ok (.aload_n 0, 1) := by decide +kernel
theorem dL_law_629 : decode cL_law 629 = .ok (.iload_n 3, 1) := by decide +kernel
theorem dL_law_630 : decode cL_law 630 = .ok (.iconst 2, 1) := by decide +kernel
theorem dL_law_631 : decode cL_law 631 = .ok (.iadd, 1) := by decide +kernel
theorem dL_law_632 : decode cL_law 632 = .ok (.iaload, 1) := by decide +kernel
theorem dL_law_633 : decode cL_law 633 = .ok (.invokevirtual 91, 3) := by decide +kernel
theorem dL_law_636 : decode cL_law 636 = .ok (.if_icmp .eq 246, 3) := by decide +kernel
theorem dL_law_639 : decode cL_law 639 = .ok (.iconst 0, 1) := by decide +kernel
theorem dL_law_640 : decode cL_law 640 = .ok (.ireturn, 1) := by decide +kernel
theorem dL_law_641 : decode cL_law 641 = .ok (.aload_n 1, 1) := by decide +kernel
theorem dL_law_642 : decode cL_law 642 = .ok (.invokevirtual 92, 3) := by decide +kernel
theorem dL_law_645 : decode cL_law 645 = .ok (.aload_n 2, 1) := by decide +kernel
theorem dL_law_646 : decode cL_law 646 = .ok (.invokevirtual 95, 3) := by decide +kernel
theorem dL_law_649 : decode cL_law 649 = .ok (.if_icmp .eq 233, 3) := by decide +kernel
theorem dL_law_652 : decode cL_law 652 = .ok (.iconst 0, 1) := by decide +kernel
theorem dL_law_653 : decode cL_law 653 = .ok (.ireturn, 1) := by decide +kernel
theorem dL_law_654 : decode cL_law 654 = .ok (.aload_n 1, 1) := by decide +kernel
theorem dL_law_655 : decode cL_law 655 = .ok (.invokevirtual 96, 3) := by decide +kernel
theorem dL_law_658 : decode cL_law 658 = .ok (.aload_n 2, 1) := by decide +kernel
theorem dL_law_659 : decode cL_law 659 = .ok (.invokevirtual 99, 3) := by decide +kernel
theorem dL_law_662 : decode cL_law 662 = .ok (.if_icmp .eq 220, 3) := by decide +kernel
theorem dL_law_665 : decode cL_law 665 = .ok (.iconst 0, 1) := by decide +kernel
theorem dL_law_666 : decode cL_law 666 = .ok (.ireturn, 1) := by decide +kernel
theorem dL_law_667 : decode cL_law 667 = .ok (.aload_n 1, 1) := by decide +kernel
theorem dL_law_668 : decode cL_law 668 = .ok (.aload_n 0, 1) := by decide +kernel
theorem dL_law_669 : decode cL_law 669 = .ok (.iload_n 3, 1) := by decide +kernel
theorem dL_law_670 : decode cL_law 670 = .ok (.iconst 1, 1) := by decide +kernel
theorem dL_law_671 : decode cL_law 671 = .ok (.iadd, 1) := by decide +kernel
theorem dL_law_672 : decode cL_law 672 = .ok (.iaload, 1) := by decide +kernel
theorem dL_law_673 : decode cL_law 673 = .ok (.invokevirtual 100, 3) := by decide +kernel
theorem dL_law_676 : decode cL_law 676 = .ok (.aload_n 2, 1) := by decide +kernel
theorem dL_law_677 : decode cL_law 677 = .ok (.aload_n 0, 1) := by decide +kernel
theorem dL_law_678 : decode cL_law 678 = .ok (.iload_n 3, 1) := by decide +kernel
theorem dL_law_679 : decode cL_law 679 = .ok (.iconst 1, 1) := by decide +kernel
theorem dL_law_680 : decode cL_law 680 = .ok (.iadd, 1) := by decide +kernel
theorem dL_law_681 : decode cL_law 681 = .ok (.iaload, 1) := by decide +kernel
theorem dL_law_682 : decode cL_law 682 = .ok (.invokevirtual 103, 3) := by decide +kernel
theorem dL_law_685 : decode cL_law 685 = .ok (.if_icmp .eq 197, 3) := by decide +kernel
theorem dL_law_688 : decode cL_law 688 = .ok (.iconst 0, 1) := by decide +kernel
theorem dL_law_689 : decode cL_law 689 = .ok (.ireturn, 1) := by decide +kernel
theorem dL_law_690 : decode cL_law 690 = .ok (.aload_n 1, 1) := by decide +kernel
theorem dL_law_691 : decode cL_law 691 = .ok (.aload_n 0, 1) := by decide +kernel
theorem dL_law_692 : decode cL_law 692 = .ok (.iload_n 3, 1) := by decide +kernel
theorem dL_law_693 : decode cL_law 693 = .ok (.iconst 1, 1) := by decide +kernel
theorem dL_law_694 : decode cL_law 694 = .ok (.iadd, 1) := by decide +kernel
theorem dL_law_695 : decode cL_law 695 = .ok (.iaload, 1) := by decide +kernel
theorem dL_law_696 : decode cL_law 696 = .ok (.invokevirtual 104, 3) := by decide +kernel
theorem dL_law_699 : decode cL_law 699 = .ok (.aload_n 2, 1) := by decide +kernel
theorem dL_law_700 : decode cL_law 700 = .ok (.aload_n 0, 1) := by decide +kernel
theorem dL_law_701 : decode cL_law 701 = .ok (.iload_n 3, 1) := by decide +kernel
theorem dL_law_702 : decode cL_law 702 = .ok (.iconst 1, 1) := by decide +kernel
theorem dL_law_703 : decode cL_law 703 = .ok (.iadd, 1) := by decide +kernel
theorem dL_law_704 : decode cL_law 704 = .ok (.iaload, 1) := by decide +kernel
theorem dL_law_705 : decode cL_law 705 = .ok (.invokevirtual 107, 3) := by decide +kernel
theorem dL_law_708 : decode cL_law 708 = .ok (.if_icmp .eq 174, 3) := by decide +kernel
theorem dL_law_711 : decode cL_law 711 = .ok (.iconst 0, 1) := by decide +kernel
theorem dL_law_712 : decode cL_law 712 = .ok (.ireturn, 1) := by decide +kernel
theorem dL_law_713 : decode cL_law 713 = .ok (.aload_n 1, 1) := by decide +kernel
theorem dL_law_714 : decode cL_law 714 = .ok (.aload_n 0, 1) := by decide +kernel
theorem dL_law_715 : decode cL_law 715 = .ok (.iload_n 3, 1) := by decide +kernel
theorem dL_law_716 : decode cL_law 716 = .ok (.iconst 1, 1) := by decide +kernel
theorem dL_law_717 : decode cL_law 717 = .ok (.iadd, 1) := by decide +kernel
theorem dL_law_718 : decode cL_law 718 = .ok (.iaload, 1) := by decide +kernel
theorem dL_law_719 : decode cL_law 719 = .ok (.aload_n 0, 1) := by decide +kernel
theorem dL_law_720 : decode cL_law 720 = .ok (.iload_n 3, 1) := by decide +kernel
theorem dL_law_721 : decode cL_law 721 = .ok (.iconst 2, 1) := by decide +kernel
theorem dL_law_722 : decode cL_law 722 = .ok (.iadd, 1) := by decide +kernel
theorem dL_law_723 : decode cL_law 723 = .ok (.iaload, 1) := by decide +kernel
theorem dL_law_724 : decode cL_law 724 = .ok (.aload_n 0, 1) := by decide +kernel
theorem dL_law_725 : decode cL_law 725 = .ok (.iload_n 3, 1) := by decide +kernel
theorem dL_law_726 : decode cL_law 726 = .ok (.iconst 3, 1) := by decide +kernel
theorem dL_law_727 : decode cL_law 727 = .ok (.iadd, 1) := by decide +kernel
theorem dL_law_728 : decode cL_law 728 = .ok (.iaload, 1) := by decide +kernel
theorem dL_law_729 : decode cL_law 729 = .ok (.aload_n 0, 1) := by decide +kernel
theorem dL_law_730 : decode cL_law 730 = .ok (.iload_n 3, 1) := by decide +kernel
theorem dL_law_731 : decode cL_law 731 = .ok (.iconst 4, 1) := by decide +kernel
theorem dL_law_732 : decode cL_law 732 = .ok (.iadd, 1) := by decide +kernel
theorem dL_law_733 : decode cL_law 733 = .ok (.iaload, 1) := by decide +kernel
theorem dL_law_734 : decode cL_law 734 = .ok (.invokevirtual 108, 3) := by decide +kernel
theorem dL_law_737 : decode cL_law 737 = .ok (.aload_n 2, 1) := by decide +kernel
theorem dL_law_738 : decode cL_law 738 = .ok (.aload_n 0, 1) := by decide +kernel
theorem dL_law_739 : decode cL_law 739 = .ok (.iload_n 3, 1) := by decide +kernel
theorem dL_law_740 : decode cL_law 740 = .ok (.iconst 1, 1) := by decide +kernel
theorem dL_law_741 : decode cL_law 741 = .ok (.iadd, 1) := by decide +kernel
theorem dL_law_742 : decode cL_law 742 = .ok (.iaload, 1) := by decide +kernel
theorem dL_law_743 : decode cL_law 743 = .ok (.aload_n 0, 1) := by decide +kernel
theorem dL_law_744 : decode cL_law 744 = .ok (.iload_n 3, 1) := by decide +kernel
theorem dL_law_745 : decode cL_law 745 = .ok (.iconst 2, 1) := by decide +kernel
theorem dL_law_746 : decode cL_law 746 = .ok (.iadd, 1) := by decide +kernel
theorem dL_law_747 : decode cL_law 747 = .ok (.iaload, 1) := by decide +kernel
theorem dL_law_748 : decode cL_law 748 = .ok (.aload_n 0, 1) := by decide +kernel
theorem dL_law_749 : decode cL_law 749 = .ok (.iload_n 3, 1) := by decide +kernel
theorem dL_law_750 : decode cL_law 750 = .ok (.iconst 3, 1) := by decide +kernel
theorem dL_law_751 : decode cL_law 751 = .ok (.iadd, 1) := by decide +kernel
theorem dL_law_752 : decode cL_law 752 = .ok (.iaload, 1) := by decide +kernel
theorem dL_law_753 : decode cL_law 753 = .ok (.aload_n 0, 1) := by decide +kernel
theorem dL_law_754 : decode cL_law 754 = .ok (.iload_n 3, 1) := by decide +kernel
theorem dL_law_755 : decode cL_law 755 = .ok (.iconst 4, 1) := by decide +kernel
theorem dL_law_756 : decode cL_law 756 = .ok (.iadd, 1) := by decide +kernel
theorem dL_law_757 : decode cL_law 757 = .ok (.iaload, 1) := by decide +kernel
theorem dL_law_758 : decode cL_law 758 = .ok (.invokevirtual 112, 3) := by decide +kernel
theorem dL_law_761 : decode cL_law 761 = .ok (.if_icmp .eq 121, 3) := by decide +kernel
theorem dL_law_764 : decode cL_law 764 = .ok (.iconst 0, 1) := by decide +kernel
theorem dL_law_765 : decode cL_law 765 = .ok (.ireturn, 1) := by decide +kernel
theorem dL_law_766 : decode cL_law 766 = .ok (.aload_n 1, 1) := by decide +kernel
theorem dL_law_767 : decode cL_law 767 = .ok (.aload_n 0, 1) := by decide +kernel
theorem dL_law_768 : decode cL_law 768 = .ok (.iload_n 3, 1) := by decide +kernel
theorem dL_law_769 : decode cL_law 769 = .ok (.iconst 1, 1) := by decide +kernel
theorem dL_law_770 : decode cL_law 770 = .ok (.iadd, 1) := by decide +kernel
theorem dL_law_771 : decode cL_law 771 = .ok (.iaload, 1) := by decide +kernel
theorem dL_law_772 : decode cL_law 772 = .ok (.aload_n 0, 1) := by decide +kernel
theorem dL_law_773 : decode cL_law 773 = .ok (.iload_n 3, 1) := by decide +kernel
theorem dL_law_774 : decode cL_law 774 = .ok (.iconst 2, 1) := by decide +kernel
theorem dL_law_775 : decode cL_law 775 = .ok (.iadd, 1) := by decide +kernel
theorem dL_law_776 : decode cL_law 776 = .ok (.iaload, 1) := by decide +kernel
theorem dL_law_777 : decode cL_law 777 = .ok (.invokevirtual 113, 3) := by decide +kernel
theorem dL_law_780 : decode cL_law 780 = .ok (.aload_n 2, 1) := by decide +kernel
theorem dL_law_781 : decode cL_law 781 = .ok (.aload_n 0, 1) := by decide +kernel
theorem dL_law_782 : decode cL_law 782 = .ok (.iload_n 3, 1) := by decide +kernel
theorem dL_law_783 : decode cL_law 783 = .ok (.iconst 1, 1) := by decide +kernel
theorem dL_law_784 : decode cL_law 784 = .ok (.iadd, 1) := by decide +kernel
theorem dL_law_785 : decode cL_law 785 = .ok (.iaload, 1) := by decide +kernel
theorem dL_law_786 : decode cL_law 786 = .ok (.aload_n 0, 1) := by decide +kernel
theorem dL_law_787 : decode cL_law 787 = .ok (.iload_n 3, 1) := by decide +kernel
theorem dL_law_788 : decode cL_law 788 = .ok (.iconst 2, 1) := by decide +kernel
theorem dL_law_789 : decode cL_law 789 = .ok (.iadd, 1) := by decide +kernel
theorem dL_law_790 : decode cL_law 790 = .ok (.iaload, 1) := by decide +kernel
theorem dL_law_791 : decode cL_law 791 = .ok (.invokevirtual 116, 3) := by decide +kernel
theorem dL_law_794 : decode cL_law 794 = .ok (.if_icmp .eq 88, 3) := by decide +kernel
theorem dL_law_797 : decode cL_law 797 = .ok (.iconst 0, 1) := by decide +kernel
theorem dL_law_798 : decode cL_law 798 = .ok (.ireturn, 1) := by decide +kernel
theorem dL_law_799 : decode cL_law 799 = .ok (.aload_n 1, 1) := by decide +kernel
theorem dL_law_800 : decode cL_law 800 = .ok (.aload_n 0, 1) := by decide +kernel
theorem dL_law_801 : decode cL_law 801 = .ok (.iload_n 3, 1) := by decide +kernel
theorem dL_law_802 : decode cL_law 802 = .ok (.iconst 1, 1) := by decide +kernel
theorem dL_law_803 : decode cL_law 803 = .ok (.iadd, 1) := by decide +kernel
theorem dL_law_804 : decode cL_law 804 = .ok (.iaload, 1) := by decide +kernel
theorem dL_law_805 : decode cL_law 805 = .ok (.invokevirtual 117, 3) := by decide +kernel
theorem dL_law_808 : decode cL_law 808 = .ok (.aload_n 2, 1) := by decide +kernel
theorem dL_law_809 : decode cL_law 809 = .ok (.aload_n 0, 1) := by decide +kernel
theorem dL_law_810 : decode cL_law 810 = .ok (.iload_n 3, 1) := by decide +kernel
theorem dL_law_811 : decode cL_law 811 = .ok (.iconst 1, 1) := by decide +kernel
theorem dL_law_812 : decode cL_law 812 = .ok (.iadd, 1) := by decide +kernel
theorem dL_law_813 : decode cL_law 813 = .ok (.iaload, 1) := by decide +kernel
theorem dL_law_814 : decode cL_law 814 = .ok (.invokevirtual 120, 3) := by decide +kernel
theorem dL_law_817 : decode cL_law 817 = .ok (.if_icmp .eq 65, 3) := by decide +kernel
theorem dL_law_820 : decode cL_law 820 = .ok (.iconst 0, 1) := by decide +kernel
theorem dL_law_821 : decode cL_law 821 = .ok (.ireturn, 1) := by decide +kernel
theorem dL_law_822 : decode cL_law 822 = .ok (.aload_n 1, 1) := by decide +kernel
theorem dL_law_823 : decode cL_law 823 = .ok (.aload_n 0, 1) := by decide +kernel
theorem dL_law_824 : decode cL_law 824 = .ok (.iload_n 3, 1) := by decide +kernel
theorem dL_law_825 : decode cL_law 825 = .ok (.iconst 1, 1) := by decide +kernel
theorem dL_law_826 : decode cL_law 826 = .ok (.iadd, 1) := by decide +kernel
theorem dL_law_827 : decode cL_law 827 = .ok (.iaload, 1) := by decide +kernel
theorem dL_law_828 : decode cL_law 828 = .ok (.invokevirtual 121, 3) := by decide +kernel
theorem dL_law_831 : decode cL_law 831 = .ok (.aload_n 2, 1) := by decide +kernel
theorem dL_law_832 : decode cL_law 832 = .ok (.aload_n 0, 1) := by decide +kernel
theorem dL_law_833 : decode cL_law 833 = .ok (.iload_n 3, 1) := by decide +kernel
theorem dL_law_834 : decode cL_law 834 = .ok (.iconst 1, 1) := by decide +kernel
theorem dL_law_835 : decode cL_law 835 = .ok (.iadd, 1) := by decide +kernel
theorem dL_law_836 : decode cL_law 836 = .ok (.iaload, 1) := by decide +kernel
theorem dL_law_837 : decode cL_law 837 = .ok (.invokevirtual 124, 3) := by decide +kernel
theorem dL_law_840 : decode cL_law 840 = .ok (.if_icmp .eq 42, 3) := by decide +kernel
theorem dL_law_843 : decode cL_law 843 = .ok (.iconst 0, 1) := by decide +kernel
theorem dL_law_844 : decode cL_law 844 = .ok (.ireturn, 1) := by decide +kernel
theorem dL_law_845 : decode cL_law 845 = .ok (.aload_n 1, 1) := by decide +kernel
theorem dL_law_846 : decode cL_law 846 = .ok (.aload_n 0, 1) := by decide +kernel
theorem dL_law_847 : decode cL_law 847 = .ok (.iload_n 3, 1) := by decide +kernel
theorem dL_law_848 : decode cL_law 848 = .ok (.iconst 1, 1) := by decide +kernel
theorem dL_law_849 : decode cL_law 849 = .ok (.iadd, 1) := by decide +kernel
theorem dL_law_850 : decode cL_law 850 = .ok (.iaload, 1) := by decide +kernel
theorem dL_law_851 : decode cL_law 851 = .ok (.invokevirtual 125, 3) := by decide +kernel
theorem dL_law_854 : decode cL_law 854 = .ok (.aload_n 2, 1) := by decide +kernel
theorem dL_law_855 : decode cL_law 855 = .ok (.aload_n 0, 1) := by decide +kernel
theorem dL_law_856 : decode cL_law 856 = .ok (.iload_n 3, 1) := by decide +kernel
theorem dL_law_857 : decode cL_law 857 = .ok (.iconst 1, 1) := by decide +kernel
theorem dL_law_858 : decode cL_law 858 = .ok (.iadd, 1) := by decide +kernel
theorem dL_law_859 : decode cL_law 859 = .ok (.iaload, 1) := by decide +kernel
theorem dL_law_860 : decode cL_law 860 = .ok (.invokevirtual 128, 3) := by decide +kernel
theorem dL_law_863 : decode cL_law 863 = .ok (.if_icmp .eq 19, 3) := by decide +kernel
theorem dL_law_866 : decode cL_law 866 = .ok (.iconst 0, 1) := by decide +kernel
theorem dL_law_867 : decode cL_law 867 = .ok (.ireturn, 1) := by decide +kernel
theorem dL_law_868 : decode cL_law 868 = .ok (.aload_n 1, 1) := by decide +kernel
theorem dL_law_869 : decode cL_law 869 = .ok (.invokevirtual 129, 3) := by decide +kernel
theorem dL_law_872 : decode cL_law 872 = .ok (.aload_n 2, 1) := by decide +kernel
theorem dL_law_873 : decode cL_law 873 = .ok (.invokevirtual 133, 3) := by decide +kernel
theorem dL_law_876 : decode cL_law 876 = .ok (.lcmp, 1) := by decide +kernel
theorem dL_law_877 : decode cL_law 877 = .ok (.ifCond .eq 5, 3) := by decide +kernel
theorem dL_law_880 : decode cL_law 880 = .ok (.iconst 0, 1) := by decide +kernel
theorem dL_law_881 : decode cL_law 881 = .ok (.ireturn, 1) := by decide +kernel
theorem dL_law_882 : decode cL_law 882 = .ok (.iinc 3 5, 3) := by decide +kernel
theorem dL_law_885 : decode cL_law 885 = .ok (.goto (-867), 3) := by decide +kernel
theorem dL_law_888 : decode cL_law 888 = .ok (.iconst 1, 1) := by decide +kernel
theorem dL_law_889 : decode cL_law 889 = .ok (.ireturn, 1) := by decide +kernel
end
section
/-! own rows: words, contracts, calls -/
/-- the nest mates' links -/
def NN (U : State) : Prop := ∀ q ∈ nestL, va_Nw (.methodLinkNest q.1 q.2.1 q.2.2.1 q.2.2.2) U
theorem NN.warm {s U : State} (hW : s.WarmedH U.vm) (h : NN s) : NN U := fun q hq => va_Nw.warmM hW (h q hq)
theorem NN.same {u U : State} (h : u.vm = U.vm) (hn : NN u) : NN U := fun q hq => va_Nw.same rfl h (hn q hq)
theorem gdB {w : Cond} (h : w ∈ BW) : (w.onTables && w.keeps) = true ∨ ∃ ty, w = .arrayClass ty := good_of_word (gd_BW w h)
theorem giB {ws : List Cond} (h : ∀ w ∈ ws, w ∈ BW) : GoodIn BW ws := fun w hw => ⟨h w hw, gdB (h w hw)⟩
theorem giC {y : MethodName} {b : ByteArray} {n : Nat} {rt : Option FieldType} (h : Cond.code y b n rt ∈ BW) : GoodIn BW (Cond.code y b n rt :: BW) := giB (fun w hw => (List.mem_cons.mp hw).elim (fun e => by rw [e]; exact h) id)
/-- what is put in place of some rows of a world -/
def putW : va_W → List Nat → va_W → va_W
  | ws, [], _ => ws
  | ws, _ :: _, [] => ws
  | ws, i :: is, e :: es => putW (ws.set i e) is es
theorem putW_get : ∀ (is : List Nat) (w1 ws : va_W) (k : Nat) (q : Nat × va_E), is.Nodup → is.length = w1.length → (putW ws is w1)[k]? = some q → (∃ j : Nat, is[j]? = some k ∧ w1[j]? = some q) ∨ (k ∉ is ∧ ws[k]? = some q) := by
  intro is
  induction is with
  | nil => intro w1 ws k q _ _ h; right; refine ⟨by simp, ?_⟩; simpa [putW] using h
  | cons i is ih =>
    intro w1 ws k q hn hl h
    cases w1 with
    | nil => simp at hl
    | cons e es =>
      rw [putW] at h
      rw [List.nodup_cons] at hn
      rcases ih es (ws.set i e) k q hn.2 (by simpa using hl) h with ⟨j, h1, h2⟩ | ⟨h1, h2⟩
      · exact Or.inl ⟨j + 1, by simpa using h1, by simpa using h2⟩
      · by_cases hk : i = k
        · subst hk
          left
          refine ⟨0, by simp, ?_⟩
          rw [List.getElem?_set] at h2
          simp only [if_true] at h2
          split at h2
          · simpa using h2
          · cases h2
        · right
          rw [List.getElem?_set_ne hk] at h2
          exact ⟨by simp [h1, Ne.symm hk], h2⟩
theorem putW_fst : ∀ (is : List Nat) (w1 ws : va_W), is.map (fun i => (ws[i]?).map Prod.fst) = w1.map (fun e => some e.1) → (putW ws is w1).map Prod.fst = ws.map Prod.fst := by
  intro is
  induction is with
  | nil => intro w1 ws _; simp [putW]
  | cons i is ih =>
    intro w1 ws h
    cases w1 with
    | nil => rfl
    | cons e es =>
      simp only [List.map_cons, List.cons.injEq] at h
      have key : (ws.set i e).map Prod.fst = ws.map Prod.fst := by
        apply List.ext_getElem?
        intro k
        simp only [List.getElem?_map]
        by_cases hk : i = k
        · subst hk
          rw [List.getElem?_set]
          cases hw : ws[i]? with
          | none => rw [hw] at h; simp at h
          | some z =>
            have hlt : i < ws.length := (List.getElem?_eq_some_iff.mp hw).1
            rw [hw] at h
            simp at h
            simp [hlt, h.1]
        · rw [List.getElem?_set_ne hk]
      rw [putW, ih es (ws.set i e) ?_, key]
      rw [← h.2]
      apply List.map_congr_left
      intro k _
      have := congrArg (fun l => l[k]?) key
      simpa only [List.getElem?_map] using this
theorem my_Dc {A : Nat → Prop} {ws ws' : va_W} (h : ws'.map Prod.fst = ws.map Prod.fst) (hD : va_D A ws) : va_D A ws' := by
  have key : ∀ (k : Nat) (q : Nat × va_E), ws'[k]? = some q → ∃ e, ws[k]? = some (q.1, e) := by
    intro k q hk
    have h1 := congrArg (fun l => l[k]?) h
    simp only [List.getElem?_map, hk] at h1
    cases hw : ws[k]? with
    | none => rw [hw] at h1; simp at h1
    | some z => rw [hw] at h1; simp at h1; exact ⟨z.2, by rw [h1]⟩
  refine ⟨fun i j p q hi hj e => ?_, fun k q hk => ?_⟩
  · obtain ⟨e1, h1⟩ := key i p hi
    obtain ⟨e2, h2⟩ := key j q hj
    exact hD.1 i j _ _ h1 h2 e
  · obtain ⟨e1, h1⟩ := key k q hk
    exact hD.2 k (q.1, e1) h1
theorem putW_P {D : va_G} {A : Nat → Prop} {ws wc w1 : va_W} {H H1 : Heap} (hP : va_P D vwCl ws H) (hD : va_D A ws) (isC : List Nat) (hC : isC.map (fun i => ws[i]?) = wc.map some) (hn : isC.Nodup) (hk : ∀ q : Nat, q < H.size → ¬ va_A wc H.size q → H1[q]? = H[q]?) (hP1 : va_P D vwCl w1 H1) (hf : w1.map Prod.fst = wc.map Prod.fst) : va_P D vwCl (putW ws isC w1) H1 ∧ (putW ws isC w1).map Prod.fst = ws.map Prod.fst := by
  have hl : isC.length = w1.length := by
    have h1 := congrArg List.length hC
    have h2 := congrArg List.length hf
    simp at h1 h2
    omega
  refine ⟨fun k q hkq => ?_, putW_fst isC w1 ws ?_⟩
  · rcases putW_get isC w1 ws k q hn hl hkq with ⟨j, h1, h2⟩ | ⟨h1, h2⟩
    · exact hP1 j q h2
    · refine (hP k q h2).kept (hk q.1 (hP k q h2).lt ?_)
      rintro (⟨j, e, hj⟩ | hj)
      · have h3 : (isC.map (fun i => ws[i]?))[j]? = some (some (q.1, e)) := by rw [hC, List.getElem?_map, hj]; rfl
        rw [List.getElem?_map] at h3
        cases hi : isC[j]? with
        | none => rw [hi] at h3; cases h3
        | some i =>
          rw [hi] at h3
          have h4 := hD.1 k i q (q.1, e) h2 (Option.some.inj h3) rfl
          subst h4
          exact h1 (List.mem_of_getElem? hi)
      · have := (hP k q h2).lt
        omega
  · have h1 : isC.map (fun i => (ws[i]?).map Prod.fst) = (isC.map (fun i => ws[i]?)).map (Option.map Prod.fst) := by rw [List.map_map]; rfl
    rw [h1, hC, List.map_map]
    have h2 : w1.map (fun e => some e.1) = (w1.map Prod.fst).map some := by rw [List.map_map]; rfl
    rw [h2, hf, List.map_map]
    rfl
/-- contracts that make nothing: before and behind, the same addresses -/
def PC (D : va_G) (tys : List (ClassId × FieldType)) (w0 : va_W) (sz : Nat) (av : List Value) : Array Value → State → Prop := va_Pc av (fun U => U.heap.size = sz ∧ va_P D vwCl w0 U.heap ∧ va_K D vwCl tys U ∧ va_D (fun _ => True) w0 ∧ NN U)
def Bw (D : va_G) (w0 : va_W) : va_W → State → Prop := fun w1 t => va_P D vwCl w1 t.heap ∧ w1.map Prod.fst = w0.map Prod.fst
abbrev rmN (fr : Nat) : Room := { frames := fr, cells := 0, slots := 0, locals := 40 * fr }
def CtI (l : Launch) (y : MethodName) (b : ByteArray) (n : Nat) (rt : Option FieldType) (fr : Nat) (D : va_G) (tys : List (ClassId × FieldType)) (av : List Value) (w0 : va_W) (post : Int32 → va_W → Prop) : Prop :=
  ∀ sz : Nat, Met l y (Cond.code y b n rt :: BW) (rmN fr) (PC D tys w0 sz av) (va_Qi post (Bw D w0) (va_A w0 sz)) 0 0 (va_A w0 sz)
def CtV (l : Launch) (y : MethodName) (b : ByteArray) (n : Nat) (fr : Nat) (D : va_G) (tys : List (ClassId × FieldType)) (av : List Value) (w0 : va_W) (post : va_W → Prop) : Prop :=
  ∀ sz : Nat, Met l y (Cond.code y b n none :: BW) (rmN fr) (PC D tys w0 sz av) (va_Qv post (Bw D w0) (va_A w0 sz)) 0 0 (va_A w0 sz)
def CtL (l : Launch) (y : MethodName) (b : ByteArray) (n : Nat) (fr : Nat) (D : va_G) (tys : List (ClassId × FieldType)) (av : List Value) (w0 : va_W) (post : Int64 → va_W → Prop) : Prop :=
  ∀ sz : Nat, Met l y (Cond.code y b n (some .long) :: BW) (rmN fr) (PC D tys w0 sz av) (va_Ql post (Bw D w0) (va_A w0 sz)) 0 0 (va_A w0 sz)
theorem PC.blind {D : va_G} {tys : List (ClassId × FieldType)} {w0 : va_W} {sz : Nat} {av : List Value} : FrameBlind (PC D tys w0 sz av) := by
  intro a U g mk q
  obtain ⟨q0, q1, qP, qK, qD, qN⟩ := q
  exact ⟨q0, q1, qP, va_K.moved (u := U) (U := U.calling g mk a) (Vm.Alike.refl U.vm) qK, qD, NN.same rfl qN⟩
/-- the world at a call -/
def AtC (D : va_G) (tys : List (ClassId × FieldType)) (A : Nat → Prop) (ws : va_W) (s : State) (H : Heap) (locs : List Loc) : Prop := NN s ∧ va_K D vwCl tys s ∧ va_P D vwCl ws H ∧ va_D A ws ∧ va_S A s.heap H locs ∧ ∀ q, s.heap.size ≤ q → A q
/-- from a method's entry -/
theorem bodyW {l : Launch} {y : MethodName} {b : ByteArray} {n : Nat} {rt : Option FieldType} {fr : Nat} {D : va_G} {tys : List (ClassId × FieldType)} {av : List Value} {w0 : va_W} {sz : Nat} {Qc : Array Value → State → Outcome → State → Prop} (hy : plainName y.cls = true) (hlen : (lg_sl av).length ≤ n)
    (h : ∀ (p : Program) (e : Env) (s : State) (m : MethodId) (below : List Frame) (meth : Method) (c : Code) (ls : Array Slot), s.heap.size = sz → CallFix p m c b n s av.toArray BW y.cls → meth.sig.returnType = rt → meth.locks = false → AtC D tys (va_A w0 s.heap.size) w0 s s.heap [] → lv_has ls n (lv_args 0 av) →
      W p l e (rmN fr) s m av.toArray below meth c s.heap [] 0 0 (MQ below Qc av.toArray s 0 0 (va_A w0 sz)) (F0 m 0 ls [])) : Met l y (Cond.code y b n rt :: BW) (rmN fr) (PC D tys w0 sz av) Qc 0 0 (va_A w0 sz) := by
  refine Met.ofW (cc := b) (maxL := n) (ret := rt) hy rfl ?_
  intro p e s m args below meth c s₁ B hml hv
  obtain ⟨rfl, hsz, hP, hK, hD, hN⟩ := hv
  have hts := atoms_spec (ws := Cond.code y b n rt :: BW) B.pre
  have hown : s.vm.findClass y.cls = some m.cls := findClass_of_methodNamed B.named
  rw [lg_entry_eq]
  exact h p e s m below meth c _ hsz ⟨B.exec, B.bytes, hml, hown, fun w hw => hts w (List.mem_cons_of_mem _ hw)⟩ B.returns B.notSynchronized ⟨hN, hK, hP, hD.self, va_S.rf, fun q h => Or.inr h⟩ (lv_entry av hlen)
theorem CtI.of {l : Launch} {y : MethodName} {b : ByteArray} {n : Nat} {ty : FieldType} {fr : Nat} {D : va_G} {tys : List (ClassId × FieldType)} {av : List Value} {w0 : va_W} {post : Int32 → va_W → Prop} (hy : plainName y.cls = true) (hlen : (lg_sl av).length ≤ n)
    (h : ∀ (p : Program) (e : Env) (s : State) (m : MethodId) (args : Array Value) (below : List Frame) (meth : Method) (c : Code) (ls : Array Slot) (Q : State → Prop) (A : Nat → Prop), CallFix p m c b n s args BW y.cls →
      (∀ (H : Heap) (locs : List Loc) (pc : Nat) (ls : Array Slot) (v : Int32) (w1 : va_W), AtC D tys A w1 s H locs → w1.map Prod.fst = w0.map Prod.fst → narrow ty (.int v) = .int v → decode b pc = .ok (.ireturn, 1) → post v w1 → W p l e (rmN fr) s m args below meth c H locs 0 0 Q (F0 m pc ls [.int v])) →
      AtC D tys A w0 s s.heap [] → lv_has ls n (lv_args 0 av) → W p l e (rmN fr) s m args below meth c s.heap [] 0 0 Q (F0 m 0 ls [])) : CtI l y b n (some ty) fr D tys av w0 post := by
  intro sz
  refine bodyW hy hlen ?_
  intro p e s m below meth c ls hsz S hr hlk hW hl
  subst hsz
  exact h p e s m _ below meth c ls _ _ S (fun H locs pc ls v w1 hW hf hn hdg hp => W.zret S.1 S.2.1 hr hn (fun t ht _ => ⟨⟨v, w1, rfl, hp, by rw [ht]; exact hW.2.2.1, hf⟩, hW.2.2.2.2.1.F ht⟩) hW.2.2.2.2.1.2.2 hdg hlk) hW hl
theorem CtV.of {l : Launch} {y : MethodName} {b : ByteArray} {n : Nat} {fr : Nat} {D : va_G} {tys : List (ClassId × FieldType)} {av : List Value} {w0 : va_W} {post : va_W → Prop} (hy : plainName y.cls = true) (hlen : (lg_sl av).length ≤ n)
    (h : ∀ (p : Program) (e : Env) (s : State) (m : MethodId) (args : Array Value) (below : List Frame) (meth : Method) (c : Code) (ls : Array Slot) (Q : State → Prop) (A : Nat → Prop), CallFix p m c b n s args BW y.cls →
      (∀ (H : Heap) (locs : List Loc) (pc : Nat) (ls : Array Slot) (w1 : va_W), AtC D tys A w1 s H locs → w1.map Prod.fst = w0.map Prod.fst → decode b pc = .ok (.return_, 1) → post w1 → W p l e (rmN fr) s m args below meth c H locs 0 0 Q (F0 m pc ls [])) →
      AtC D tys A w0 s s.heap [] → lv_has ls n (lv_args 0 av) → W p l e (rmN fr) s m args below meth c s.heap [] 0 0 Q (F0 m 0 ls [])) : CtV l y b n fr D tys av w0 post := by
  intro sz
  refine bodyW hy hlen ?_
  intro p e s m below meth c ls hsz S hr hlk hW hl
  subst hsz
  exact h p e s m _ below meth c ls _ _ S (fun H locs pc ls w1 hW hf hdg hp => W.vret S.1 S.2.1 hr (fun t ht _ => ⟨⟨w1, rfl, hp, by rw [ht]; exact hW.2.2.1, hf⟩, hW.2.2.2.2.1.F ht⟩) hW.2.2.2.2.1.2.2 hdg hlk) hW hl
theorem CtL.of {l : Launch} {y : MethodName} {b : ByteArray} {n : Nat} {fr : Nat} {D : va_G} {tys : List (ClassId × FieldType)} {av : List Value} {w0 : va_W} {post : Int64 → va_W → Prop} (hy : plainName y.cls = true) (hlen : (lg_sl av).length ≤ n)
    (h : ∀ (p : Program) (e : Env) (s : State) (m : MethodId) (args : Array Value) (below : List Frame) (meth : Method) (c : Code) (ls : Array Slot) (Q : State → Prop) (A : Nat → Prop), CallFix p m c b n s args BW y.cls →
      (∀ (H : Heap) (locs : List Loc) (pc : Nat) (ls : Array Slot) (v : Int64) (w1 : va_W), AtC D tys A w1 s H locs → w1.map Prod.fst = w0.map Prod.fst → decode b pc = .ok (.lreturn, 1) → post v w1 → W p l e (rmN fr) s m args below meth c H locs 0 0 Q (F0 m pc ls [.long v])) →
      AtC D tys A w0 s s.heap [] → lv_has ls n (lv_args 0 av) → W p l e (rmN fr) s m args below meth c s.heap [] 0 0 Q (F0 m 0 ls [])) : CtL l y b n fr D tys av w0 post := by
  intro sz
  refine bodyW hy hlen ?_
  intro p e s m below meth c ls hsz S hr hlk hW hl
  subst hsz
  exact h p e s m _ below meth c ls _ _ S (fun H locs pc ls v w1 hW hf hdg hp => W.lret S.1 S.2.1 hr (fun t ht _ => ⟨⟨v, w1, rfl, hp, by rw [ht]; exact hW.2.2.1, hf⟩, hW.2.2.2.2.1.F ht⟩) hW.2.2.2.2.1.2.2 hdg hlk) hW hl
/-- what a method of a class is: its words -/
def VM (C : String) (y : MethodName) (b : ByteArray) (n : Nat) (rt : Option FieldType) (k : Nat) : Prop := Cond.instanceMethod y ∈ BW ∧ Cond.selects C y y ∈ BW ∧ Cond.initialized C ∈ BW ∧ Cond.code y b n rt ∈ BW ∧ y.cls = C ∧ y.cls ≠ "java/lang/invoke/MethodHandle" ∧ y.cls ≠ "java/lang/invoke/VarHandle" ∧ (parseMethodDescriptor y.desc).map (fun d => d.parameters.length) = some k
def SM (y : MethodName) (b : ByteArray) (n : Nat) (rt : Option FieldType) (k : Nat) : Prop := Cond.static y ∈ BW ∧ Cond.initialized y.cls ∈ BW ∧ Cond.code y b n rt ∈ BW ∧ y.cls ≠ "java/lang/invoke/MethodHandle" ∧ y.cls ≠ "java/lang/invoke/VarHandle" ∧ (parseMethodDescriptor y.desc).map (fun d => d.parameters.length) = some k
section OWN
variable {p : Program} {l : Launch} {e : Env} {R : Room} {s : State} {m : MethodId} {args : Array Value} {below : List Frame} {meth : Method} {c : Code} {H : Heap} {locs : List Loc} {cells slots : Nat} {Q : State → Prop}
variable {cc : ByteArray} {nL pc : Nat} {ls : Array Slot} {rest : List Value} {D : va_G} {A : Nat → Prop} {a : Nat} {tys : List (ClassId × FieldType)} {ws : va_W} {own : String}
theorem r_get (S : CallFix p m c cc nL s args BW own) (hW : AtC D tys A ws s H locs) (q0 : Nat) {ci : Nat} {fs : List Value} (he : ws[q0]? = some (a, .inr (ci, fs))) {C : String} {T : u_T} {N : Nat} (hX : vwCl[ci]? = some (C, T, N)) (hin : ∀ w ∈ u_ws C T N, w ∈ BW) (k : Nat) (hk : k < N) {v : Value} (hv : fs[k]? = some v) {idx : Nat} (hl : Cond.fieldLink own idx (T k).1 (T k).2.1 (T k).2.2.1 ∈ BW) (hdg : decode cc pc = .ok (.getfield idx, 3))
    (kk : W p l e R s m args below meth c H locs cells slots Q (F0 m (pc + 3) ls (v :: rest))) : W p l e R s m args below meth c H locs cells slots Q (F0 m pc ls (.ref a :: rest)) := by
  obtain ⟨hx, hb, hml, hown, hts⟩ := S
  obtain ⟨hN, hK, hP, hD, hS, hA⟩ := hW
  exact va_get hx hb hts hin hown hK hP q0 he hX k hk (hts _ hl) (fun _ h => h) hv hdg kk
theorem r_put (S : CallFix p m c cc nL s args BW own) (hW : AtC D tys A ws s H locs) (q0 : Nat) {ci : Nat} {fs : List Value} (he : ws[q0]? = some (a, .inr (ci, fs))) {C : String} {T : u_T} {N : Nat} (hX : vwCl[ci]? = some (C, T, N)) (hin : ∀ w ∈ u_ws C T N, w ∈ BW) {ty0 : Nat → FieldType} (hty : ∀ k, k < N → parseFieldDescriptor (T k).2.2.1 = some (ty0 k)) (hnm : ∀ a, a < N → ∀ b, b < N → a ≠ b → (T a).2.1 ≠ (T b).2.1) (k : Nat) (hk : k < N) {v : Value} {idx : Nat} (hl : Cond.fieldLink own idx (T k).1 (T k).2.1 (T k).2.2.1 ∈ BW) (hfin : (T k).2.2.2 = false) (hn : narrow (ty0 k) v = v) (hfit : fits (ty0 k) v = true) (hlen : k < fs.length) (hdg : decode cc pc = .ok (.putfield idx, 3))
    {ws' : va_W} (hw : ws.set q0 (a, .inr (ci, fs.set k v)) = ws')
    (kk : ∀ (H1 : Heap) (locs1 : List Loc), AtC D tys A ws' s H1 locs1 → W p l e R s m args below meth c H1 locs1 cells slots Q (F0 m (pc + 3) ls rest)) : W p l e R s m args below meth c H locs cells slots Q (F0 m pc ls (v :: .ref a :: rest)) := by
  obtain ⟨hx, hb, hml, hown, hts⟩ := S
  subst hw
  obtain ⟨hN, hK, hP, hD, hS, hA⟩ := hW
  exact va_put hx hb hts hin ty0 hty hnm hown hK hP hD hS q0 he hX k hk (hts _ hl) (fun _ h => h) hfin (hty k hk) hn hfit hlen hdg (fun H1 locs1 h1 h2 h3 => kk H1 locs1 ⟨hN, hK, h1, h2, h3, hA⟩)
theorem r_iald (S : CallFix p m c cc nL s args BW own) (hW : AtC D tys A ws s H locs) (q0 t0 : Nat) {cA : ClassId} {n : Nat} {f : Nat → Int32} (ha : ws[q0]? = some (a, .inl (cA, n, .inl f))) (ht : tys[t0]? = some (cA, .int)) {i : Int32} {j : Nat} (hi : i = nI j) (hj : j < n) (hn : n < 2 ^ 31) (hdg : decode cc pc = .ok (.iaload, 1))
    (kk : W p l e R s m args below meth c H locs cells slots Q (F0 m (pc + 1) ls (.int (f j) :: rest))) : W p l e R s m args below meth c H locs cells slots Q (F0 m pc ls (.int i :: .ref a :: rest)) := by
  subst hi
  obtain ⟨hN, hK, hP, hD, hS, hA⟩ := hW
  refine va_iald S.1 S.2.1 hK hP q0 t0 ha ht (vp_in_nI hj hn) hdg ?_
  rw [nI_clamp (by omega)]
  exact kk
theorem r_zald (S : CallFix p m c cc nL s args BW own) (hW : AtC D tys A ws s H locs) (q0 t0 : Nat) {cA : ClassId} {n : Nat} {f : Nat → Int32} (ha : ws[q0]? = some (a, .inl (cA, n, .inl f))) (ht : tys[t0]? = some (cA, .boolean)) {i : Int32} {j : Nat} (hi : i = nI j) (hj : j < n) (hn : n < 2 ^ 31) (hdg : decode cc pc = .ok (.baload, 1))
    (kk : W p l e R s m args below meth c H locs cells slots Q (F0 m (pc + 1) ls (.int (f j) :: rest))) : W p l e R s m args below meth c H locs cells slots Q (F0 m pc ls (.int i :: .ref a :: rest)) := by
  subst hi
  obtain ⟨hN, hK, hP, hD, hS, hA⟩ := hW
  refine va_zald S.1 S.2.1 hK hP q0 t0 ha ht (vp_in_nI hj hn) hdg ?_
  rw [nI_clamp (by omega)]
  exact kk
theorem r_iast (S : CallFix p m c cc nL s args BW own) (hW : AtC D tys A ws s H locs) (q0 t0 : Nat) {cA : ClassId} {n : Nat} {f : Nat → Int32} (ha : ws[q0]? = some (a, .inl (cA, n, .inl f))) (ht : tys[t0]? = some (cA, .int)) {i x : Int32} {j : Nat} (hi : i = nI j) (hj : j < n) (hn : n < 2 ^ 31) (hdg : decode cc pc = .ok (.iastore, 1))
    {ws' : va_W} (hw : ws.set q0 (a, .inl (cA, n, .inl (upd f j x))) = ws')
    (kk : ∀ (H1 : Heap) (locs1 : List Loc), AtC D tys A ws' s H1 locs1 → W p l e R s m args below meth c H1 locs1 cells slots Q (F0 m (pc + 1) ls rest)) : W p l e R s m args below meth c H locs cells slots Q (F0 m pc ls (.int x :: .int i :: .ref a :: rest)) := by
  subst hi
  subst hw
  have e : (nI j).toNatClampNeg = j := nI_clamp (by omega)
  obtain ⟨hN, hK, hP, hD, hS, hA⟩ := hW
  refine va_iast S.1 S.2.1 hK hP hD hS q0 t0 ha ht (vp_in_nI hj hn) hdg (fun H1 locs1 h1 h2 h3 => ?_)
  rw [e] at h1 h2
  exact kk H1 locs1 ⟨hN, hK, h1, h2, h3, hA⟩
theorem r_zast (S : CallFix p m c cc nL s args BW own) (hW : AtC D tys A ws s H locs) (q0 t0 : Nat) {cA : ClassId} {n : Nat} {f : Nat → Int32} (ha : ws[q0]? = some (a, .inl (cA, n, .inl f))) (ht : tys[t0]? = some (cA, .boolean)) {i x : Int32} {j : Nat} (hi : i = nI j) (hj : j < n) (hn : n < 2 ^ 31) (hz : vp_nar .boolean x = x) (hdg : decode cc pc = .ok (.bastore, 1))
    {ws' : va_W} (hw : ws.set q0 (a, .inl (cA, n, .inl (upd f j x))) = ws')
    (kk : ∀ (H1 : Heap) (locs1 : List Loc), AtC D tys A ws' s H1 locs1 → W p l e R s m args below meth c H1 locs1 cells slots Q (F0 m (pc + 1) ls rest)) : W p l e R s m args below meth c H locs cells slots Q (F0 m pc ls (.int x :: .int i :: .ref a :: rest)) := by
  subst hi
  subst hw
  have e : (nI j).toNatClampNeg = j := nI_clamp (by omega)
  obtain ⟨hN, hK, hP, hD, hS, hA⟩ := hW
  refine va_zast S.1 S.2.1 hK hP hD hS q0 t0 ha ht (vp_in_nI hj hn) hdg (fun H1 locs1 h1 h2 h3 => ?_)
  rw [e, hz] at h1 h2
  exact kk H1 locs1 ⟨hN, hK, h1, h2, h3, hA⟩
/-- the top of the stack by another word -/
theorem r_eq {x y : Int32} (h : x = y) (k : W p l e R s m args below meth c H locs cells slots Q (F0 m pc ls (.int y :: rest))) : W p l e R s m args below meth c H locs cells slots Q (F0 m pc ls (.int x :: rest)) := h ▸ k
theorem AtC.cut {wc : va_W} (h : AtC D tys A ws s H locs) (isC : List Nat) (hC : isC.map (fun i => ws[i]?) = wc.map some) (hn : isC.Nodup) : va_P D vwCl wc H ∧ va_D (fun _ => True) wc ∧ ∀ q, va_A wc H.size q → A q := by
  obtain ⟨hN, hK, hP, hD, hS, hA⟩ := h
  have at' : ∀ (k : Nat) (q : Nat × va_E), wc[k]? = some q → ∃ i, isC[k]? = some i ∧ ws[i]? = some q := by
    intro k q hq
    have h1 : (isC.map (fun i => ws[i]?))[k]? = some (some q) := by rw [hC, List.getElem?_map, hq]; rfl
    rw [List.getElem?_map] at h1
    cases hi : isC[k]? with
    | none => rw [hi] at h1; cases h1
    | some i => rw [hi] at h1; exact ⟨i, rfl, Option.some.inj h1⟩
  refine ⟨fun k q hk => ?_, ⟨fun i j x y hx hy hxy => ?_, fun _ _ _ => trivial⟩, va_free hD hS hA isC hC⟩
  · obtain ⟨i, h1, h2⟩ := at' k q hk
    exact hP i q h2
  · obtain ⟨i1, h1, h2⟩ := at' i x hx
    obtain ⟨j1, h3, h4⟩ := at' j y hy
    have e := hD.1 i1 j1 x y h2 h4 hxy
    subst e
    have hi := (List.getElem?_eq_some_iff.mp h1)
    have hj := (List.getElem?_eq_some_iff.mp h3)
    exact (List.getElem_inj hn).mp (hi.2.trans hj.2.symm)
theorem AtC.pre {wc : va_W} {av : List Value} (h : AtC D tys A ws s H locs) (isC : List Nat) (hC : isC.map (fun i => ws[i]?) = wc.map some) (hn : isC.Nodup) : ∀ U : State, U.heap = H → s.WarmedH U.vm → PC D tys wc H.size av av.toArray U := by
  obtain ⟨h1, h2, -⟩ := h.cut isC hC hn
  obtain ⟨hN, hK, hP, hD, hS, hA⟩ := h
  exact fun U hU hW => ⟨rfl, by rw [hU], by rw [hU]; exact h1, va_K.moved hW.alike hK, h2, hN.warm hW⟩
theorem callVI (S : CallFix p m c cc nL s args BW own) (hW : AtC D tys A ws s H locs) {y : MethodName} {b : ByteArray} {n : Nat} {rt : Option FieldType} {fr b0 : Nat} {As : List Value} {wc : va_W} {post : Int32 → va_W → Prop} (hM : CtI l y b n rt fr D tys (.ref b0 :: As) wc post) {C : String} {k : Nat} (hV : VM C y b n rt k) {idx : Nat} (hl : Cond.methodLink own idx y ∈ BW) (isC : List Nat) (hC : isC.map (fun i => ws[i]?) = wc.map some) (hn : isC.Nodup) (q0 : Nat) {ci : Nat} {T : u_T} {N : Nat} {fs : List Value} (hc : vwCl[ci]? = some (C, T, N)) (he : wc[q0]? = some (b0, .inr (ci, fs)))
    (hk : As.length = k) {st : List Value} (hst : st = As.reverse ++ .ref b0 :: rest) (hsz : ls.size = nL) (hro : (rest.map fun v => v.category).sum ≤ 8) (hR : fr + 1 ≤ R.frames ∧ 8 + (n + 11) + 40 * fr ≤ R.locals) (hf : cells ≤ R.cells ∧ slots ≤ R.slots) (hdg : decode cc pc = .ok (.invokevirtual idx, 3))
    (kk : ∀ (r : Int32) (w1 : va_W) (H1 : Heap) (locs1 : List Loc), post r w1 → AtC D tys A (putW ws isC w1) s H1 locs1 → W p l e R s m args below meth c H1 locs1 cells slots Q (F0 m (pc + 3) ls (.int r :: rest))) : W p l e R s m args below meth c H locs cells slots Q (F0 m pc ls st) := by
  subst hst
  obtain ⟨hPc, hDc, hFc⟩ := hW.cut isC hC hn
  have hpre := hW.pre (av := .ref b0 :: As) isC hC hn
  obtain ⟨hN, hK, hP, hD, hS, hA⟩ := hW
  obtain ⟨v1, v2, v3, v4, v5, v6, v7, v8⟩ := hV
  refine va_calli (va_runV (As := As) (rest := rest) S (hM H.size) (cwV (ws' := BW) k S.2.2.2.2 (giB (fun w hw => by
    unfold wsV at hw
    rcases List.mem_append.mp hw with h | h
    · simp at h
      rcases h with rfl | rfl | rfl | rfl
      · exact hl
      · exact v1
      · exact v2
      · exact v3
    · exact (List.mem_cons.mp h).elim (fun e => by rw [e]; exact v4) id)) rfl rfl rfl ⟨v5, v6, v7, v8⟩ hR) ⟨PC.blind, va_recv hK hPc hc he, hpre⟩ rfl hk hsz rfl (lv_room hro) hdg ⟨by simpa using hf.1, by simpa using hf.2⟩) hS (fun q _ h => hFc q h) hFc (fun r u t H1 locs1 ht hvm hw hB hz1 hk1 hS1 => ?_)
  obtain ⟨hP1, hf1⟩ := hB
  rw [ht] at hP1
  obtain ⟨g1, g2⟩ := putW_P hP hD isC hC hn hk1 hP1 hf1
  exact kk r u H1 locs1 hw ⟨hN, hK, g1, my_Dc g2 hD, hS1, hA⟩
theorem callVV (S : CallFix p m c cc nL s args BW own) (hW : AtC D tys A ws s H locs) {y : MethodName} {b : ByteArray} {n : Nat} {fr b0 : Nat} {As : List Value} {wc : va_W} {post : va_W → Prop} (hM : CtV l y b n fr D tys (.ref b0 :: As) wc post) {C : String} {k : Nat} (hV : VM C y b n none k) {idx : Nat} (hl : Cond.methodLink own idx y ∈ BW) (isC : List Nat) (hC : isC.map (fun i => ws[i]?) = wc.map some) (hn : isC.Nodup) (q0 : Nat) {ci : Nat} {T : u_T} {N : Nat} {fs : List Value} (hc : vwCl[ci]? = some (C, T, N)) (he : wc[q0]? = some (b0, .inr (ci, fs)))
    (hk : As.length = k) {st : List Value} (hst : st = As.reverse ++ .ref b0 :: rest) (hsz : ls.size = nL) (hro : (rest.map fun v => v.category).sum ≤ 8) (hR : fr + 1 ≤ R.frames ∧ 8 + (n + 11) + 40 * fr ≤ R.locals) (hf : cells ≤ R.cells ∧ slots ≤ R.slots) (hdg : decode cc pc = .ok (.invokevirtual idx, 3))
    (kk : ∀ (w1 : va_W) (H1 : Heap) (locs1 : List Loc), post w1 → AtC D tys A (putW ws isC w1) s H1 locs1 → W p l e R s m args below meth c H1 locs1 cells slots Q (F0 m (pc + 3) ls rest)) : W p l e R s m args below meth c H locs cells slots Q (F0 m pc ls st) := by
  subst hst
  obtain ⟨hPc, hDc, hFc⟩ := hW.cut isC hC hn
  have hpre := hW.pre (av := .ref b0 :: As) isC hC hn
  obtain ⟨hN, hK, hP, hD, hS, hA⟩ := hW
  obtain ⟨v1, v2, v3, v4, v5, v6, v7, v8⟩ := hV
  refine va_callv (va_runV (As := As) (rest := rest) S (hM H.size) (cwV (ws' := BW) k S.2.2.2.2 (giB (fun w hw => by
    unfold wsV at hw
    rcases List.mem_append.mp hw with h | h
    · simp at h
      rcases h with rfl | rfl | rfl | rfl
      · exact hl
      · exact v1
      · exact v2
      · exact v3
    · exact (List.mem_cons.mp h).elim (fun e => by rw [e]; exact v4) id)) rfl rfl rfl ⟨v5, v6, v7, v8⟩ hR) ⟨PC.blind, va_recv hK hPc hc he, hpre⟩ rfl hk hsz rfl (lv_room hro) hdg ⟨by simpa using hf.1, by simpa using hf.2⟩) hS (fun q _ h => hFc q h) hFc (fun u t H1 locs1 ht hvm hw hB hz1 hk1 hS1 => ?_)
  obtain ⟨hP1, hf1⟩ := hB
  rw [ht] at hP1
  obtain ⟨g1, g2⟩ := putW_P hP hD isC hC hn hk1 hP1 hf1
  exact kk u H1 locs1 hw ⟨hN, hK, g1, my_Dc g2 hD, hS1, hA⟩
/-- a static method of the same class or of the JDK: no cells -/
theorem callSI (S : CallFix p m c cc nL s args BW own) (hW : AtC D tys A ws s H locs) {y : MethodName} {b : ByteArray} {n : Nat} {rt : Option FieldType} {fr : Nat} {As : List Value} {post : Int32 → va_W → Prop} (hM : CtI l y b n rt fr D tys As [] post) {k : Nat} (hV : SM y b n rt k) {idx : Nat} (hl : Cond.methodLink own idx y ∈ BW)
    (hk : As.length = k) {st : List Value} (hst : st = As.reverse ++ rest) (hsz : ls.size = nL) (hro : (rest.map fun v => v.category).sum ≤ 8) (hR : fr + 1 ≤ R.frames ∧ 8 + (n + 11) + 40 * fr ≤ R.locals) (hf : cells ≤ R.cells ∧ slots ≤ R.slots) (hdg : decode cc pc = .ok (.invokestatic idx, 3))
    (kk : ∀ (r : Int32) (H1 : Heap) (locs1 : List Loc), post r [] → AtC D tys A ws s H1 locs1 → W p l e R s m args below meth c H1 locs1 cells slots Q (F0 m (pc + 3) ls (.int r :: rest))) : W p l e R s m args below meth c H locs cells slots Q (F0 m pc ls st) := by
  subst hst
  have hC : ([] : List Nat).map (fun i => ws[i]?) = ([] : va_W).map some := rfl
  obtain ⟨hPc, hDc, hFc⟩ := hW.cut [] hC List.nodup_nil
  have hpre := hW.pre (av := As) [] hC List.nodup_nil
  obtain ⟨hN, hK, hP, hD, hS, hA⟩ := hW
  obtain ⟨v1, v2, v3, v5, v6, v7⟩ := hV
  refine va_calli (va_runS (As := As) (rest := rest) S (hM H.size) (va_cwS (ws' := BW) k S.2.2.2.2 (giB (fun w hw => by
    unfold va_wsS at hw
    rcases List.mem_append.mp hw with h | h
    · simp at h
      rcases h with rfl | rfl | rfl
      · exact hl
      · exact v1
      · exact v2
    · exact (List.mem_cons.mp h).elim (fun e => by rw [e]; exact v3) id)) rfl rfl rfl ⟨v5, v6, v7⟩ hR) ⟨PC.blind, hpre⟩ rfl hk hsz rfl (lv_room hro) hdg ⟨by simpa using hf.1, by simpa using hf.2⟩) hS (fun q _ h => hFc q h) hFc (fun r u t H1 locs1 ht hvm hw hB hz1 hk1 hS1 => ?_)
  obtain ⟨hP1, hf1⟩ := hB
  have hu : u = [] := by simpa using hf1
  subst hu
  rw [ht] at hP1
  obtain ⟨g1, g2⟩ := putW_P (w1 := []) hP hD [] hC List.nodup_nil hk1 hP1 hf1
  exact kk r H1 locs1 hw ⟨hN, hK, g1, my_Dc g2 hD, hS1, hA⟩
/-- a nest mate's static method: no cells -/
theorem callNI (S : CallFix p m c cc nL s args BW own) (hW : AtC D tys A ws s H locs) {y : MethodName} {b : ByteArray} {n : Nat} {rt : Option FieldType} {fr : Nat} {As : List Value} {post : Int32 → va_W → Prop} (hM : CtI l y b n rt fr D tys As [] post) {k : Nat} (hV : SM y b n rt k) {idx : Nat} {host : String} (j : Nat) (hl : nestL[j]? = some (own, idx, y, host))
    (hk : As.length = k) {st : List Value} (hst : st = As.reverse ++ rest) (hsz : ls.size = nL) (hro : (rest.map fun v => v.category).sum ≤ 8) (hR : fr + 1 ≤ R.frames ∧ 8 + (n + 11) + 40 * fr ≤ R.locals) (hf : cells ≤ R.cells ∧ slots ≤ R.slots) (hdg : decode cc pc = .ok (.invokestatic idx, 3))
    (kk : ∀ (r : Int32) (H1 : Heap) (locs1 : List Loc), post r [] → AtC D tys A ws s H1 locs1 → W p l e R s m args below meth c H1 locs1 cells slots Q (F0 m (pc + 3) ls (.int r :: rest))) : W p l e R s m args below meth c H locs cells slots Q (F0 m pc ls st) := by
  subst hst
  have hC : ([] : List Nat).map (fun i => ws[i]?) = ([] : va_W).map some := rfl
  obtain ⟨hPc, hDc, hFc⟩ := hW.cut [] hC List.nodup_nil
  have hpre := hW.pre (av := As) [] hC List.nodup_nil
  obtain ⟨hN, hK, hP, hD, hS, hA⟩ := hW
  obtain ⟨v1, v2, v3, v5, v6, v7⟩ := hV
  refine va_calli (va_runSN (As := As) (rest := rest) (host := host) S (hM H.size) ⟨va_cnB (ws' := BW) k S.2.2.2.2 (giC v3) rfl rfl rfl (hN _ (List.mem_of_getElem? hl)) (S.2.2.2.2 _ v2) ⟨v5, v6, v7⟩ hR, S.2.2.2.2 _ v1, trivial⟩ ⟨PC.blind, hpre⟩ rfl hk hsz rfl (lv_room hro) hdg ⟨by simpa using hf.1, by simpa using hf.2⟩) hS (fun q _ h => hFc q h) hFc (fun r u t H1 locs1 ht hvm hw hB hz1 hk1 hS1 => ?_)
  obtain ⟨hP1, hf1⟩ := hB
  have hu : u = [] := by simpa using hf1
  subst hu
  rw [ht] at hP1
  obtain ⟨g1, g2⟩ := putW_P (w1 := []) hP hD [] hC List.nodup_nil hk1 hP1 hf1
  exact kk r H1 locs1 hw ⟨hN, hK, g1, my_Dc g2 hD, hS1, hA⟩
theorem r_copy (S : CallFix p m c cc nL s args BW own) (hW : AtC D tys A ws s H locs) (q0 q1 : Nat) {a0 : Nat} {cA : ClassId} {n0 n1 : Nat} {f g : Nat → Int32} (ha0 : ws[q0]? = some (a0, .inl (cA, n0, .inl f))) (ha1 : ws[q1]? = some (a, .inl (cA, n1, .inl g))) (t0 : Nat) (ht0 : tys[t0]? = some (cA, .int)) {idx : Nat} (hl : Cond.methodLink own idx arraycopyName ∈ BW) (hnat : Cond.native arraycopyName ∈ BW) (hst : Cond.static arraycopyName ∈ BW) (hini : Cond.initialized "java/lang/System" ∈ BW) (n : Nat) (h4 : n ≤ n0) (h5 : n ≤ n1) (hn : n < 2 ^ 31) (hsz : ls.size = nL) (hf : 1 ≤ R.frames) (hlo : (rest.map fun v => v.category).sum + (nativeFrameWords "java/lang/System" "arraycopy" 5 + 11) ≤ R.locals) (hdg : decode cc pc = .ok (.invokestatic idx, 3))
    {ws' : va_W} (hw : ws.set q1 (a, .inl (cA, n1, .inl (va_cpy f g 0 0 n))) = ws')
    (kk : ∀ (H1 : Heap) (locs1 : List Loc), AtC D tys A ws' s H1 locs1 → W p l e R s m args below meth c H1 locs1 cells slots Q (F0 m (pc + 3) ls rest)) : W p l e R s m args below meth c H locs cells slots Q (F0 m pc ls (.int (nI n) :: .int 0 :: .ref a :: .int 0 :: .ref a0 :: rest)) := by
  obtain ⟨hx, hb, hml, hown, hts⟩ := S
  obtain ⟨hN, hK, hP, hD, hS, hA⟩ := hW
  subst hw
  have e : (nI n).toNatClampNeg = n := nI_clamp hn
  have e0 : (0 : Int32).toNatClampNeg = 0 := rfl
  refine va_copyi hx hb (by rw [hml]; exact hsz.symm) hown (hts _ hl) (hts _ hnat) (hts _ hst) (hts _ hini) hK hP hD hS q0 q1 t0 t0 ha0 ha1 ht0 ht0 rfl (by decide) (by decide) (nI_pos hn) (by rw [e, e0]; omega) (by rw [e, e0]; omega) (fun i _ => rfl) hf hlo hdg (fun H1 locs1 h1 h2 h3 => ?_)
  rw [e, e0] at h1 h2
  exact kk H1 locs1 ⟨hN, hK, h1, h2, h3, hA⟩
theorem r_max (S : CallFix p m c cc nL s args BW own) {idx : Nat} (hl : Cond.methodLink own idx Lib.Math.max.name ∈ BW) (hst : Cond.static Lib.Math.max.name ∈ BW) (hini : Cond.initialized "java/lang/Math" ∈ BW) (hco : Cond.code Lib.Math.max.name Lib.Math.max.code 2 (some .int) ∈ BW) (hsz : ls.size = nL) (hf : 1 ≤ R.frames) (hlo : (rest.map fun v => v.category).sum + 13 ≤ R.locals) (hc : cells ≤ R.cells ∧ slots ≤ R.slots) {x y : Int32} (hdg : decode cc pc = .ok (.invokestatic idx, 3))
    (kk : W p l e R s m args below meth c H locs cells slots Q (F0 m (pc + 3) ls (.int (if x < y then y else x) :: rest))) : W p l e R s m args below meth c H locs cells slots Q (F0 m pc ls (.int y :: .int x :: rest)) := by
  obtain ⟨hx, hb, hml, hown, hts⟩ := S
  exact va_mmax hx hb (by rw [hml]; exact hsz.symm) hown (hts _ hl) (hts _ hst) (hts _ hini) (hts _ hco) hf hlo hc.1 hc.2 hdg kk
theorem r_min (S : CallFix p m c cc nL s args BW own) {idx : Nat} (hl : Cond.methodLink own idx Lib.Math.min.name ∈ BW) (hst : Cond.static Lib.Math.min.name ∈ BW) (hini : Cond.initialized "java/lang/Math" ∈ BW) (hco : Cond.code Lib.Math.min.name Lib.Math.min.code 2 (some .int) ∈ BW) (hsz : ls.size = nL) (hf : 1 ≤ R.frames) (hlo : (rest.map fun v => v.category).sum + 13 ≤ R.locals) (hc : cells ≤ R.cells ∧ slots ≤ R.slots) {x y : Int32} (hdg : decode cc pc = .ok (.invokestatic idx, 3))
    (kk : W p l e R s m args below meth c H locs cells slots Q (F0 m (pc + 3) ls (.int (if y < x then y else x) :: rest))) : W p l e R s m args below meth c H locs cells slots Q (F0 m pc ls (.int y :: .int x :: rest)) := by
  obtain ⟨hx, hb, hml, hown, hts⟩ := S
  exact va_mmin hx hb (by rw [hml]; exact hsz.symm) hown (hts _ hl) (hts _ hst) (hts _ hini) (hts _ hco) hf hlo hc.1 hc.2 hdg kk
theorem r_ldc (S : CallFix p m c cc nL s args BW own) {idx : Nat} {v : Int32} (hl : Cond.constant own idx v ∈ BW) (hdg : decode cc pc = .ok (.ldc idx, 2)) (kk : W p l e R s m args below meth c H locs cells slots Q (F0 m (pc + 2) ls (.int v :: rest))) : W p l e R s m args below meth c H locs cells slots Q (F0 m pc ls rest) := lv_ldc S.1 S.2.1 S.2.2.2.1 (S.2.2.2.2 _ hl) hdg kk
theorem r_ldcw (S : CallFix p m c cc nL s args BW own) {idx : Nat} {v : Int32} (hl : Cond.constant own idx v ∈ BW) (hdg : decode cc pc = .ok (.ldc_w idx, 3)) (kk : W p l e R s m args below meth c H locs cells slots Q (F0 m (pc + 3) ls (.int v :: rest))) : W p l e R s m args below meth c H locs cells slots Q (F0 m pc ls rest) := lv_ldcw S.1 S.2.1 S.2.2.2.1 (S.2.2.2.2 _ hl) hdg kk
theorem r_ldc2 (S : CallFix p m c cc nL s args BW own) {idx : Nat} {v : Int64} (hl : Cond.constantLong own idx v ∈ BW) (hdg : decode cc pc = .ok (.ldc2_w idx, 3)) (kk : W p l e R s m args below meth c H locs cells slots Q (F0 m (pc + 3) ls (.long v :: rest))) : W p l e R s m args below meth c H locs cells slots Q (F0 m pc ls rest) := lv_ldc2 S.1 S.2.1 S.2.2.2.1 (S.2.2.2.2 _ hl) hdg kk
end OWN
end
