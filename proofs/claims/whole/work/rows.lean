section
-- ===== PART A: goes FIRST, ahead of the names: the tables' words, and 'selects' of the private methods out of them =====
/-- a private method of a class that the tables say can be made, by its rows of tables_1 -/
def lw_okq (q : MethodName × Nat) : Prop := (q.1.cls ≠ "java/lang/invoke/MethodHandle" ∧ q.1.cls ≠ "java/lang/invoke/VarHandle") ∧ Cond.instantiable q.1.cls q.2 ∈ tables_1 ∧ Cond.privateMethod q.1 ∈ tables_1 ∧ Cond.instanceMethod q.1 ∈ tables_1
theorem lw_p0 : lw_okq (⟨"java/lang/Throwable", "fillInStackTrace", "(I)Ljava/lang/Throwable;"⟩, 6) := ⟨⟨by decide +kernel, by decide +kernel⟩, List.mem_of_getElem? (i := 264) (by decide +kernel), List.mem_of_getElem? (i := 262) (by decide +kernel), List.mem_of_getElem? (i := 263) (by decide +kernel)⟩
theorem lw_p1 : lw_okq (⟨"LimbRegisters", "keepAnswer", "(I)V"⟩, 7) := ⟨⟨by decide +kernel, by decide +kernel⟩, List.mem_of_getElem? (i := 23) (by decide +kernel), List.mem_of_getElem? (i := 352) (by decide +kernel), List.mem_of_getElem? (i := 353) (by decide +kernel)⟩
theorem lw_p2 : lw_okq (⟨"LimbRegisters$Natural", "gather", "(LLimbRegisters$Natural;IIJ)V"⟩, 2) := ⟨⟨by decide +kernel, by decide +kernel⟩, List.mem_of_getElem? (i := 38) (by decide +kernel), List.mem_of_getElem? (i := 413) (by decide +kernel), List.mem_of_getElem? (i := 414) (by decide +kernel)⟩
theorem lw_p3 : lw_okq (⟨"LimbRegisters$Natural", "carryUp", "(I)V"⟩, 2) := ⟨⟨by decide +kernel, by decide +kernel⟩, List.mem_of_getElem? (i := 38) (by decide +kernel), List.mem_of_getElem? (i := 417) (by decide +kernel), List.mem_of_getElem? (i := 418) (by decide +kernel)⟩
theorem lw_p4 : lw_okq (⟨"LimbRegisters$Division", "nextLimb", "(I)J"⟩, 3) := ⟨⟨by decide +kernel, by decide +kernel⟩, List.mem_of_getElem? (i := 83) (by decide +kernel), List.mem_of_getElem? (i := 476) (by decide +kernel), List.mem_of_getElem? (i := 477) (by decide +kernel)⟩
theorem lw_p5 : lw_okq (⟨"LimbRegisters$Division", "guessLimb", "(I)J"⟩, 3) := ⟨⟨by decide +kernel, by decide +kernel⟩, List.mem_of_getElem? (i := 83) (by decide +kernel), List.mem_of_getElem? (i := 480) (by decide +kernel), List.mem_of_getElem? (i := 481) (by decide +kernel)⟩
theorem lw_p6 : lw_okq (⟨"LimbRegisters$Division", "takeAway", "(IJ)Z"⟩, 3) := ⟨⟨by decide +kernel, by decide +kernel⟩, List.mem_of_getElem? (i := 83) (by decide +kernel), List.mem_of_getElem? (i := 493) (by decide +kernel), List.mem_of_getElem? (i := 494) (by decide +kernel)⟩
theorem lw_p7 : lw_okq (⟨"LimbRegisters$Division", "putBack", "(I)V"⟩, 3) := ⟨⟨by decide +kernel, by decide +kernel⟩, List.mem_of_getElem? (i := 83) (by decide +kernel), List.mem_of_getElem? (i := 497) (by decide +kernel), List.mem_of_getElem? (i := 498) (by decide +kernel)⟩
theorem lw_p8 : lw_okq (⟨"LimbRegisters$Roots", "isTrialWithin", "(LLimbRegisters$Natural;I)Z"⟩, 4) := ⟨⟨by decide +kernel, by decide +kernel⟩, List.mem_of_getElem? (i := 106) (by decide +kernel), List.mem_of_getElem? (i := 563) (by decide +kernel), List.mem_of_getElem? (i := 564) (by decide +kernel)⟩
theorem lw_p9 : lw_okq (⟨"LimbRegisters", "needModulus", "(I)V"⟩, 7) := ⟨⟨by decide +kernel, by decide +kernel⟩, List.mem_of_getElem? (i := 23) (by decide +kernel), List.mem_of_getElem? (i := 600) (by decide +kernel), List.mem_of_getElem? (i := 601) (by decide +kernel)⟩
theorem lw_p10 : lw_okq (⟨"LimbRegisters$Residues", "reduceProduct", "(LLimbRegisters$Natural;)V"⟩, 4) := ⟨⟨by decide +kernel, by decide +kernel⟩, List.mem_of_getElem? (i := 128) (by decide +kernel), List.mem_of_getElem? (i := 619) (by decide +kernel), List.mem_of_getElem? (i := 620) (by decide +kernel)⟩
theorem lw_p11 : lw_okq (⟨"LimbRegisters$Text", "append", "(I)V"⟩, 2) := ⟨⟨by decide +kernel, by decide +kernel⟩, List.mem_of_getElem? (i := 67) (by decide +kernel), List.mem_of_getElem? (i := 742) (by decide +kernel), List.mem_of_getElem? (i := 743) (by decide +kernel)⟩
theorem lw_p12 : lw_okq (⟨"LimbRegisters$Text", "reverse", "()V"⟩, 2) := ⟨⟨by decide +kernel, by decide +kernel⟩, List.mem_of_getElem? (i := 67) (by decide +kernel), List.mem_of_getElem? (i := 800) (by decide +kernel), List.mem_of_getElem? (i := 801) (by decide +kernel)⟩
theorem lw_p13 : lw_okq (⟨"LimbRegistersModel", "clear", "(I)V"⟩, 6) := ⟨⟨by decide +kernel, by decide +kernel⟩, List.mem_of_getElem? (i := 812) (by decide +kernel), List.mem_of_getElem? (i := 849) (by decide +kernel), List.mem_of_getElem? (i := 850) (by decide +kernel)⟩
theorem lw_p14 : lw_okq (⟨"LimbRegistersModel", "trim", "(I)V"⟩, 6) := ⟨⟨by decide +kernel, by decide +kernel⟩, List.mem_of_getElem? (i := 812) (by decide +kernel), List.mem_of_getElem? (i := 854) (by decide +kernel), List.mem_of_getElem? (i := 855) (by decide +kernel)⟩
theorem lw_p15 : lw_okq (⟨"LimbRegistersModel", "store", "(III)V"⟩, 6) := ⟨⟨by decide +kernel, by decide +kernel⟩, List.mem_of_getElem? (i := 812) (by decide +kernel), List.mem_of_getElem? (i := 858) (by decide +kernel), List.mem_of_getElem? (i := 859) (by decide +kernel)⟩
def lw_privs_1 : List (MethodName × Nat) := [(⟨"java/lang/Throwable", "fillInStackTrace", "(I)Ljava/lang/Throwable;"⟩, 6), (⟨"LimbRegisters", "keepAnswer", "(I)V"⟩, 7), (⟨"LimbRegisters$Natural", "gather", "(LLimbRegisters$Natural;IIJ)V"⟩, 2), (⟨"LimbRegisters$Natural", "carryUp", "(I)V"⟩, 2), (⟨"LimbRegisters$Division", "nextLimb", "(I)J"⟩, 3), (⟨"LimbRegisters$Division", "guessLimb", "(I)J"⟩, 3), (⟨"LimbRegisters$Division", "takeAway", "(IJ)Z"⟩, 3), (⟨"LimbRegisters$Division", "putBack", "(I)V"⟩, 3), (⟨"LimbRegisters$Roots", "isTrialWithin", "(LLimbRegisters$Natural;I)Z"⟩, 4), (⟨"LimbRegisters", "needModulus", "(I)V"⟩, 7), (⟨"LimbRegisters$Residues", "reduceProduct", "(LLimbRegisters$Natural;)V"⟩, 4), (⟨"LimbRegisters$Text", "append", "(I)V"⟩, 2), (⟨"LimbRegisters$Text", "reverse", "()V"⟩, 2), (⟨"LimbRegistersModel", "clear", "(I)V"⟩, 6), (⟨"LimbRegistersModel", "trim", "(I)V"⟩, 6), (⟨"LimbRegistersModel", "store", "(III)V"⟩, 6)]
theorem lw_r1 : ∀ q ∈ lw_privs_1, lw_okq q := List.forall_mem_cons.mpr ⟨lw_p0, List.forall_mem_cons.mpr ⟨lw_p1, List.forall_mem_cons.mpr ⟨lw_p2, List.forall_mem_cons.mpr ⟨lw_p3, List.forall_mem_cons.mpr ⟨lw_p4, List.forall_mem_cons.mpr ⟨lw_p5, List.forall_mem_cons.mpr ⟨lw_p6, List.forall_mem_cons.mpr ⟨lw_p7, List.forall_mem_cons.mpr ⟨lw_p8, List.forall_mem_cons.mpr ⟨lw_p9, List.forall_mem_cons.mpr ⟨lw_p10, List.forall_mem_cons.mpr ⟨lw_p11, List.forall_mem_cons.mpr ⟨lw_p12, List.forall_mem_cons.mpr ⟨lw_p13, List.forall_mem_cons.mpr ⟨lw_p14, List.forall_mem_cons.mpr ⟨lw_p15, fun _ h => absurd h List.not_mem_nil⟩⟩⟩⟩⟩⟩⟩⟩⟩⟩⟩⟩⟩⟩⟩⟩
theorem lw_p16 : lw_okq (⟨"LimbRegistersModel", "move", "(II)V"⟩, 6) := ⟨⟨by decide +kernel, by decide +kernel⟩, List.mem_of_getElem? (i := 812) (by decide +kernel), List.mem_of_getElem? (i := 862) (by decide +kernel), List.mem_of_getElem? (i := 863) (by decide +kernel)⟩
theorem lw_p17 : lw_okq (⟨"LimbRegistersModel", "three", "(III)Z"⟩, 6) := ⟨⟨by decide +kernel, by decide +kernel⟩, List.mem_of_getElem? (i := 812) (by decide +kernel), List.mem_of_getElem? (i := 870) (by decide +kernel), List.mem_of_getElem? (i := 871) (by decide +kernel)⟩
theorem lw_p18 : lw_okq (⟨"LimbRegistersModel", "join", "(IIII)V"⟩, 6) := ⟨⟨by decide +kernel, by decide +kernel⟩, List.mem_of_getElem? (i := 812) (by decide +kernel), List.mem_of_getElem? (i := 878) (by decide +kernel), List.mem_of_getElem? (i := 879) (by decide +kernel)⟩
theorem lw_p19 : lw_okq (⟨"LimbRegistersModel", "order", "(II)I"⟩, 6) := ⟨⟨by decide +kernel, by decide +kernel⟩, List.mem_of_getElem? (i := 812) (by decide +kernel), List.mem_of_getElem? (i := 882) (by decide +kernel), List.mem_of_getElem? (i := 883) (by decide +kernel)⟩
theorem lw_p20 : lw_okq (⟨"LimbRegistersModel", "plus", "(III)V"⟩, 6) := ⟨⟨by decide +kernel, by decide +kernel⟩, List.mem_of_getElem? (i := 812) (by decide +kernel), List.mem_of_getElem? (i := 886) (by decide +kernel), List.mem_of_getElem? (i := 887) (by decide +kernel)⟩
theorem lw_p21 : lw_okq (⟨"LimbRegistersModel", "finish", "(IIII)V"⟩, 6) := ⟨⟨by decide +kernel, by decide +kernel⟩, List.mem_of_getElem? (i := 812) (by decide +kernel), List.mem_of_getElem? (i := 891) (by decide +kernel), List.mem_of_getElem? (i := 892) (by decide +kernel)⟩
theorem lw_p22 : lw_okq (⟨"LimbRegistersModel", "isGreat", "(I)Z"⟩, 6) := ⟨⟨by decide +kernel, by decide +kernel⟩, List.mem_of_getElem? (i := 812) (by decide +kernel), List.mem_of_getElem? (i := 895) (by decide +kernel), List.mem_of_getElem? (i := 896) (by decide +kernel)⟩
theorem lw_p23 : lw_okq (⟨"LimbRegistersModel", "minus", "(III)V"⟩, 6) := ⟨⟨by decide +kernel, by decide +kernel⟩, List.mem_of_getElem? (i := 812) (by decide +kernel), List.mem_of_getElem? (i := 899) (by decide +kernel), List.mem_of_getElem? (i := 900) (by decide +kernel)⟩
theorem lw_p24 : lw_okq (⟨"LimbRegistersModel", "times", "(III)V"⟩, 6) := ⟨⟨by decide +kernel, by decide +kernel⟩, List.mem_of_getElem? (i := 812) (by decide +kernel), List.mem_of_getElem? (i := 911) (by decide +kernel), List.mem_of_getElem? (i := 912) (by decide +kernel)⟩
theorem lw_p25 : lw_okq (⟨"LimbRegistersModel", "split", "(II)V"⟩, 6) := ⟨⟨by decide +kernel, by decide +kernel⟩, List.mem_of_getElem? (i := 812) (by decide +kernel), List.mem_of_getElem? (i := 919) (by decide +kernel), List.mem_of_getElem? (i := 920) (by decide +kernel)⟩
theorem lw_p26 : lw_okq (⟨"LimbRegistersModel", "guess", "(III)J"⟩, 6) := ⟨⟨by decide +kernel, by decide +kernel⟩, List.mem_of_getElem? (i := 812) (by decide +kernel), List.mem_of_getElem? (i := 923) (by decide +kernel), List.mem_of_getElem? (i := 924) (by decide +kernel)⟩
theorem lw_p27 : lw_okq (⟨"LimbRegistersModel", "restAt", "(I)J"⟩, 6) := ⟨⟨by decide +kernel, by decide +kernel⟩, List.mem_of_getElem? (i := 812) (by decide +kernel), List.mem_of_getElem? (i := 927) (by decide +kernel), List.mem_of_getElem? (i := 928) (by decide +kernel)⟩
theorem lw_p28 : lw_okq (⟨"LimbRegistersModel", "goes", "(III)Z"⟩, 6) := ⟨⟨by decide +kernel, by decide +kernel⟩, List.mem_of_getElem? (i := 812) (by decide +kernel), List.mem_of_getElem? (i := 931) (by decide +kernel), List.mem_of_getElem? (i := 932) (by decide +kernel)⟩
theorem lw_p29 : lw_okq (⟨"LimbRegistersModel", "takeAway", "(IIIJ)V"⟩, 6) := ⟨⟨by decide +kernel, by decide +kernel⟩, List.mem_of_getElem? (i := 812) (by decide +kernel), List.mem_of_getElem? (i := 935) (by decide +kernel), List.mem_of_getElem? (i := 936) (by decide +kernel)⟩
theorem lw_p30 : lw_okq (⟨"LimbRegistersModel", "small", "(II)V"⟩, 6) := ⟨⟨by decide +kernel, by decide +kernel⟩, List.mem_of_getElem? (i := 812) (by decide +kernel), List.mem_of_getElem? (i := 939) (by decide +kernel), List.mem_of_getElem? (i := 940) (by decide +kernel)⟩
theorem lw_p31 : lw_okq (⟨"LimbRegistersModel", "bitsOf", "(I)I"⟩, 6) := ⟨⟨by decide +kernel, by decide +kernel⟩, List.mem_of_getElem? (i := 812) (by decide +kernel), List.mem_of_getElem? (i := 947) (by decide +kernel), List.mem_of_getElem? (i := 948) (by decide +kernel)⟩
def lw_privs_2 : List (MethodName × Nat) := [(⟨"LimbRegistersModel", "move", "(II)V"⟩, 6), (⟨"LimbRegistersModel", "three", "(III)Z"⟩, 6), (⟨"LimbRegistersModel", "join", "(IIII)V"⟩, 6), (⟨"LimbRegistersModel", "order", "(II)I"⟩, 6), (⟨"LimbRegistersModel", "plus", "(III)V"⟩, 6), (⟨"LimbRegistersModel", "finish", "(IIII)V"⟩, 6), (⟨"LimbRegistersModel", "isGreat", "(I)Z"⟩, 6), (⟨"LimbRegistersModel", "minus", "(III)V"⟩, 6), (⟨"LimbRegistersModel", "times", "(III)V"⟩, 6), (⟨"LimbRegistersModel", "split", "(II)V"⟩, 6), (⟨"LimbRegistersModel", "guess", "(III)J"⟩, 6), (⟨"LimbRegistersModel", "restAt", "(I)J"⟩, 6), (⟨"LimbRegistersModel", "goes", "(III)Z"⟩, 6), (⟨"LimbRegistersModel", "takeAway", "(IIIJ)V"⟩, 6), (⟨"LimbRegistersModel", "small", "(II)V"⟩, 6), (⟨"LimbRegistersModel", "bitsOf", "(I)I"⟩, 6)]
theorem lw_r2 : ∀ q ∈ lw_privs_2, lw_okq q := List.forall_mem_cons.mpr ⟨lw_p16, List.forall_mem_cons.mpr ⟨lw_p17, List.forall_mem_cons.mpr ⟨lw_p18, List.forall_mem_cons.mpr ⟨lw_p19, List.forall_mem_cons.mpr ⟨lw_p20, List.forall_mem_cons.mpr ⟨lw_p21, List.forall_mem_cons.mpr ⟨lw_p22, List.forall_mem_cons.mpr ⟨lw_p23, List.forall_mem_cons.mpr ⟨lw_p24, List.forall_mem_cons.mpr ⟨lw_p25, List.forall_mem_cons.mpr ⟨lw_p26, List.forall_mem_cons.mpr ⟨lw_p27, List.forall_mem_cons.mpr ⟨lw_p28, List.forall_mem_cons.mpr ⟨lw_p29, List.forall_mem_cons.mpr ⟨lw_p30, List.forall_mem_cons.mpr ⟨lw_p31, fun _ h => absurd h List.not_mem_nil⟩⟩⟩⟩⟩⟩⟩⟩⟩⟩⟩⟩⟩⟩⟩⟩
theorem lw_p32 : lw_okq (⟨"LimbRegistersModel", "slide", "(II)Z"⟩, 6) := ⟨⟨by decide +kernel, by decide +kernel⟩, List.mem_of_getElem? (i := 812) (by decide +kernel), List.mem_of_getElem? (i := 952) (by decide +kernel), List.mem_of_getElem? (i := 953) (by decide +kernel)⟩
theorem lw_p33 : lw_okq (⟨"LimbRegistersModel", "bitOf", "(II)Z"⟩, 6) := ⟨⟨by decide +kernel, by decide +kernel⟩, List.mem_of_getElem? (i := 812) (by decide +kernel), List.mem_of_getElem? (i := 956) (by decide +kernel), List.mem_of_getElem? (i := 957) (by decide +kernel)⟩
theorem lw_p34 : lw_okq (⟨"LimbRegistersModel", "raise", "(II)V"⟩, 6) := ⟨⟨by decide +kernel, by decide +kernel⟩, List.mem_of_getElem? (i := 812) (by decide +kernel), List.mem_of_getElem? (i := 960) (by decide +kernel), List.mem_of_getElem? (i := 961) (by decide +kernel)⟩
theorem lw_p35 : lw_okq (⟨"LimbRegistersModel", "fits", "(II)Z"⟩, 6) := ⟨⟨by decide +kernel, by decide +kernel⟩, List.mem_of_getElem? (i := 812) (by decide +kernel), List.mem_of_getElem? (i := 968) (by decide +kernel), List.mem_of_getElem? (i := 969) (by decide +kernel)⟩
theorem lw_p36 : lw_okq (⟨"LimbRegistersModel", "reduce", "(III)V"⟩, 6) := ⟨⟨by decide +kernel, by decide +kernel⟩, List.mem_of_getElem? (i := 812) (by decide +kernel), List.mem_of_getElem? (i := 980) (by decide +kernel), List.mem_of_getElem? (i := 981) (by decide +kernel)⟩
theorem lw_p37 : lw_okq (⟨"LimbRegistersModel", "timesBy", "(IIII)V"⟩, 6) := ⟨⟨by decide +kernel, by decide +kernel⟩, List.mem_of_getElem? (i := 812) (by decide +kernel), List.mem_of_getElem? (i := 984) (by decide +kernel), List.mem_of_getElem? (i := 985) (by decide +kernel)⟩
theorem lw_p38 : lw_okq (⟨"LimbRegistersModel", "grow", "(II)V"⟩, 6) := ⟨⟨by decide +kernel, by decide +kernel⟩, List.mem_of_getElem? (i := 812) (by decide +kernel), List.mem_of_getElem? (i := 1026) (by decide +kernel), List.mem_of_getElem? (i := 1027) (by decide +kernel)⟩
theorem lw_p39 : lw_okq (⟨"LimbRegistersModel", "shrink", "(I)I"⟩, 6) := ⟨⟨by decide +kernel, by decide +kernel⟩, List.mem_of_getElem? (i := 812) (by decide +kernel), List.mem_of_getElem? (i := 1034) (by decide +kernel), List.mem_of_getElem? (i := 1035) (by decide +kernel)⟩
def lw_privs_3 : List (MethodName × Nat) := [(⟨"LimbRegistersModel", "slide", "(II)Z"⟩, 6), (⟨"LimbRegistersModel", "bitOf", "(II)Z"⟩, 6), (⟨"LimbRegistersModel", "raise", "(II)V"⟩, 6), (⟨"LimbRegistersModel", "fits", "(II)Z"⟩, 6), (⟨"LimbRegistersModel", "reduce", "(III)V"⟩, 6), (⟨"LimbRegistersModel", "timesBy", "(IIII)V"⟩, 6), (⟨"LimbRegistersModel", "grow", "(II)V"⟩, 6), (⟨"LimbRegistersModel", "shrink", "(I)I"⟩, 6)]
theorem lw_r3 : ∀ q ∈ lw_privs_3, lw_okq q := List.forall_mem_cons.mpr ⟨lw_p32, List.forall_mem_cons.mpr ⟨lw_p33, List.forall_mem_cons.mpr ⟨lw_p34, List.forall_mem_cons.mpr ⟨lw_p35, List.forall_mem_cons.mpr ⟨lw_p36, List.forall_mem_cons.mpr ⟨lw_p37, List.forall_mem_cons.mpr ⟨lw_p38, List.forall_mem_cons.mpr ⟨lw_p39, fun _ h => absurd h List.not_mem_nil⟩⟩⟩⟩⟩⟩⟩⟩
def lw_privs : List (MethodName × Nat) := lw_privs_1 ++ (lw_privs_2 ++ (lw_privs_3))
def lw_tbl : List Cond := k2_sels lw_privs ++ tables_1
theorem lw_privs_ok : ∀ q ∈ lw_privs, lw_okq q := by
  show ∀ q ∈ lw_privs_1 ++ (lw_privs_2 ++ (lw_privs_3)), lw_okq q
  exact List.forall_mem_append.mpr ⟨lw_r1, List.forall_mem_append.mpr ⟨lw_r2, lw_r3⟩⟩
-- ===== end of PART A; then your names; then what follows =====
end
section
/-! ===== BEGIN words of one list among another's, by their places ===== -/
theorem goodIn_r {big : List Cond} (ws : List Cond) (ps : List Nat) (hp : ws = ps.filterMap (fun i => big[i]?)) (h : ws.all goodWord = true) : GoodIn big ws := by
  intro w hw
  have h1 := List.all_eq_true.mp h w hw
  rw [hp] at hw
  obtain ⟨i, -, hi⟩ := List.mem_filterMap.mp hw
  have hm : w ∈ big := by first | exact List.mem_of_getElem? hi | exact List.getElem?_mem hi
  exact ⟨hm, good_of_word h1⟩
theorem goodIn_app {big a b : List Cond} (ha : GoodIn big a) (hb : GoodIn big b) : GoodIn big (a ++ b) := fun w h => (List.mem_append.mp h).elim (ha w) (hb w)
theorem goodIn_ca {big a b : List Cond} {c : Cond} (ha : GoodIn big (c :: a)) (hb : GoodIn big b) : GoodIn big (c :: (a ++ b)) := fun w h => (List.mem_cons.mp h).elim (fun e => ha w (List.mem_cons.mpr (Or.inl e))) (fun h => (List.mem_append.mp h).elim (fun h => ha w (List.mem_cons.mpr (Or.inr h))) (hb w))
theorem goodIn_sub {big ws : List Cond} (hm : ∀ w ∈ ws, w ∈ big) (h : ws.all goodWord = true) : GoodIn big ws := fun w hw => ⟨hm w hw, good_of_word (List.all_eq_true.mp h w hw)⟩
/-! ===== END ===== -/

/-! ===== BEGIN exceptions that leave a method, and their catching by the caller (launches without stack traces) ===== -/
section VXA
/-! The laws vx_back, vx_callV, vx_callS, vx_callSW, vx_throw0, vx_throwS follow proofs of the library, with one case more: JvmDerived/Free/Laws.lean (Back.of_free), Shelf42/LK1.lean (callV, callS), Shelf/KitTraced.lean (throwNew0V, throwNewS). -/
/-- where a method has thrown q: the class by its name, the cell, what was written, the world -/
def vx_T (XC : String → State → State → Prop) (st : State) (q : Addr) (t : State) (mc ms : Nat) (free : Addr → Prop) : Prop :=
  ∃ (E : String) (ce : Cell) (L : List Loc), XC E st t ∧ t.heap[q]? = some ce ∧ ce.vm = .none ∧ st.vm.findClass E = some ce.cls ∧ st.WarmedH t.vm ∧ st.sameButNew ({ t with vm := st.vm } : State) L mc ms ∧ ∀ z ∈ L, free z.base
def vx_Q (Qc : Array Value → State → Outcome → State → Prop) (XC : String → State → State → Prop) (mc ms : Nat) (free : Addr → Prop) : Array Value → State → Outcome → State → Prop := fun a st o t =>
  (Qc a st o t ∧ ∃ L, FrameEnd st o t L mc ms ∧ ∀ q ∈ L, free q.base) ∨ ∃ q, o = .threw q ∧ vx_T XC st q t mc ms free
/-- a callee that returns or throws -/
def vx_Met (l : Launch) (y : MethodName) (ws : List Cond) (rm : Room) (Pc : Array Value → State → Prop) (Qc : Array Value → State → Outcome → State → Prop) (XC : String → State → State → Prop) (mc ms : Nat) (free : Addr → Prop) : Prop :=
  MetFree l y (headSpec ws rm) Pc (fun _ _ _ _ _ => True) (vx_Q Qc XC mc ms free)
def vx_Post (XC : String → State → State → Prop) (mc ms : Nat) (free : Addr → Prop) : Pt → Array Value → Addr → Pt → Prop := fun A a q B =>
  ∃ (g : JFrame) (mk : MethodId) (t : State) (L : List Loc) (E : String) (ce : Cell), B.U.heap = t.heap ∧ B.U.vm = t.vm ∧ XC E (A.U.calling g mk a) t ∧ t.heap[q]? = some ce ∧ ce.vm = .none ∧ A.U.vm.findClass E = some ce.cls ∧ B.locs = A.locs ++ L ∧ (∀ z ∈ L, free z.base) ∧ B.cells = A.cells + mc ∧ B.slots = A.slots + ms
def vx_Back (l : Launch) (R : Room) (p : Program) (e : Env) (below : List Frame) (s : State) (sargs : Array Value) (y : MethodName) (len W9 : Nat)
    (Pre : Pt → Array Value → Prop) (Post : Pt → Array Value → Option Value → Pt → Prop) (PostX : Pt → Array Value → Addr → Pt → Prop) : Prop :=
  ∀ (m : MethodId) (meth : Method) (c : Code) (A : Pt) (g : JFrame) (ig : Instr) (mk : MethodId) (a : Array Value),
    Stand p l e R s m sargs below meth c A.U A.locs A.cells A.slots → g.method = m → g.locals.size = c.maxLocals → decode c.code g.pc = .ok (ig, len) →
    2 * g.monitorRoom + (g.stack.map fun v => v.category).sum ≤ W9 → A.U.methodNamed? y = some mk → Pre A a →
    (∃ (v : Option Value) (B : Pt), Stand p l e R s m sargs below meth c B.U B.locs B.cells B.slots ∧ Post A a v B ∧
      Steps p.tables e below (doInvoke e (A.U.setTop g) [] mk a).1 (B.U.setTop { g with pc := g.pc + len, stack := v.toList ++ g.stack })) ∨
    (∃ (q : Addr) (B : Pt), Stand p l e R s m sargs below meth c B.U B.locs B.cells B.slots ∧ PostX A a q B ∧
      Steps p.tables e below (doInvoke e (A.U.setTop g) [] mk a).1 ((B.U.setTop g).pushFrame (.throwing q)))
section Payer
variable {l : Launch} {R : Room} {p : Program} {e : Env} {below : List Frame} {s : State} {sargs : Array Value} {y : MethodName} {len W9 : Nat}
theorem vx_back {ws : List Cond} {rm : Room} {Pc : Array Value → State → Prop} {Qc : Array Value → State → Outcome → State → Prop} {XC : String → State → State → Prop} {mc ms : Nat} {free : Addr → Prop} {bytes : ByteArray} {maxL : Nat} {ret : Option FieldType}
    (hM : vx_Met l y ws rm Pc Qc XC mc ms free) (hblind : FrameBlind Pc) (hrc : rm.cells = mc) (hrs : rm.slots = ms)
    (hframes : rm.frames + 1 ≤ R.frames) (hlocals : W9 + (maxL + 11) + rm.locals ≤ R.locals)
    (hws : ∀ w ∈ ws, ∀ a' U, s.WarmedH U.vm → w.before a' U = true) (hcode : Cond.code y bytes maxL ret ∈ ws) (hinit : ∀ a' U, s.WarmedH U.vm → (Cond.initialized y.cls).before a' U = true) :
    vx_Back l R p e below s sargs y len W9 (PreOf R mc ms Pc) (PostOf Qc mc ms free) (vx_Post XC mc ms free) := by
  intro m meth c A g ig mk a X hg hsize hdg hW hn hp
  have h1 : (headSpec ws rm).pre.before a A.U = true := atoms_intro fun w hw => hws w hw _ _ X.warmed
  have h2 : (Cond.code y bytes maxL ret).before a A.U = true := hws _ hcode _ _ X.warmed
  have h3 : (Cond.initialized y.cls).before a A.U = true := hinit _ _ X.warmed
  have h4 : A.cells + (headSpec ws rm).room.cells ≤ R.cells := by rw [show (headSpec ws rm).room.cells = mc from hrc]; exact hp.1
  have h5 : A.slots + (headSpec ws rm).room.slots ≤ R.slots := by rw [show (headSpec ws rm).room.slots = ms from hrs]; exact hp.2.1
  have hPc : Pc a (A.U.calling g mk a) := hblind _ _ _ _ hp.2.2
  obtain ⟨U, Ls, c0, s0⟩ := A
  dsimp only [Pt.U, Pt.locs, Pt.cells, Pt.slots] at h1 h2 h3 h4 h5 X hn hPc ⊢
  obtain ⟨methY, cY, hmY, hcY, -, hlY, -, -, -, -⟩ := Cond.code_spec hn h2
  obtain ⟨kY, hkY, -⟩ := className_of_methodNamed hn
  have hinitY : kY.init = .initialized := Cond.initialized_spec (findClass_of_methodNamed hn) hkY h3
  have h : At U g.method c below := by rw [hg]; exact X.here
  have hlocals9 : W9 + (maxL + 11) + (headSpec ws rm).room.locals ≤ R.locals := hlocals
  have happ : (headSpec ws rm).appliesLoose y e.platform (U.calling g mk a) = true :=
    Spec.appliesLoose_calling (g := g) h hdg hn hkY hinitY
      (X.room_calling (g := g) (R' := (headSpec ws rm).room) hsize hmY hcY hframes (by rw [hlY]; omega) h4 h5) h1
  obtain ⟨mid, hmid⟩ := h.above
  have hfr : (U.setTop g).frames = (.java g :: mid) ++ below := by rw [State.frames_setTop' g h.top, hmid]; rfl
  obtain ⟨o, s₂, hsteps, -, hend, hq⟩ := Steps.callFree hM p X.admits X.cas X.clock (acts := []) hfr happ hPc trivial
  have hq' : vx_Q Qc XC mc ms free a (U.calling g mk a) o s₂ := hq
  rw [State.frames_setTop' g h.top] at hend
  obtain ⟨g₀, hg0⟩ := Option.isSome_iff_exists.mp h.top
  obtain ⟨r, hr⟩ := State.topJava?_eq_some.mp hg0
  have hr' : (({ U with heap := s₂.heap, slotsUsed := s₂.slotsUsed } : State).setVm s₂.vm).frames = .java g₀ :: r := hr
  rcases hq' with ⟨hqc, L, hfe, hL⟩ | ⟨q, rfl, E, ce, L, hx, hce, hcv, hcl, hW₂, hsm, hL⟩
  · obtain ⟨⟨v, rfl⟩, hW₂, e2, q2, q3, q4, q5, q6⟩ := id hfe
    have e3 : s₂ = ({ (U.calling g mk a).setFrames s₂.frames with heap := s₂.heap, slotsUsed := s₂.slotsUsed } : State).setVm s₂.vm := by
      have : s₂ = ({ s₂ with vm := (U.calling g mk a).vm } : State).setVm s₂.vm := rfl
      rw [e2] at this
      exact this
    obtain ⟨c₂, i₂, len₂, hc₂, hd₂, hf₂⟩ := hend
    have hW' : U.WarmedH s₂.vm := hW₂
    have hcc : c₂ = c := by
      have h1 : s₂.code? g.method = U.code? g.method := by
        rw [State.code?_eq, State.code?_eq, hW'.alike.method?]
      exact Option.some.inj (hc₂.symm.trans (h1.trans h.code))
    subst hcc
    have hlen : len₂ = len := by rw [hdg] at hd₂; cases hd₂; rfl
    subst hlen
    have hs₂ : s₂ = (({ U with heap := s₂.heap, slotsUsed := s₂.slotsUsed } : State).setVm s₂.vm).setTop { g with pc := g.pc + len₂, stack := v.toList ++ g.stack } := by
      refine e3.trans ?_
      rw [hf₂, State.calling_eq h.top, State.setFrames_setFrames, State.setTop_of_frames _ hr', hr]
      rfl
    have hsame : U.sameButNew ({ U with heap := s₂.heap, slotsUsed := s₂.slotsUsed } : State) L mc ms := by
      refine ⟨?_, q2, q3, q4, q5, q6⟩
      obtain ⟨t, ht, -⟩ := State.frames_cons hr
      show ({ U with heap := s₂.heap, slotsUsed := s₂.slotsUsed } : State) = { U.setFrames U.frames with heap := s₂.heap, slotsUsed := s₂.slotsUsed }
      rw [State.setFrames_self ht]
    subst hg
    refine Or.inl ⟨v, ⟨(({ U with heap := s₂.heap, slotsUsed := s₂.slotsUsed } : State).setVm s₂.vm), Ls ++ L, c0 + mc, s0 + ms⟩,
      ⟨X.admits, X.cas, X.clock, X.frames, X.room, X.hears, X.method, X.code, (X.here.setHeapUsed s₂.heap s₂.slotsUsed).setVm hW'.alike, X.tail, State.WarmedH.trans X.warmed hW', X.limits, X.bytes, X.same.trans (hsame.setVm s.vm)⟩,
      ⟨g, mk, s₂, L, rfl, rfl, hqc, rfl, hL, rfl, rfl⟩, ?_⟩
    show Steps p.tables e below _ ((({ U with heap := s₂.heap, slotsUsed := s₂.slotsUsed } : State).setVm s₂.vm).setTop { g with pc := g.pc + len₂, stack := v.toList ++ g.stack })
    rw [← hs₂]
    exact hsteps
  · obtain ⟨e2, q2, q3, q4, q5, q6⟩ := id hsm
    have e3 : s₂ = ({ (U.calling g mk a).setFrames s₂.frames with heap := s₂.heap, slotsUsed := s₂.slotsUsed } : State).setVm s₂.vm := by
      have : s₂ = ({ s₂ with vm := (U.calling g mk a).vm } : State).setVm s₂.vm := rfl
      rw [e2] at this
      exact this
    have hf₂ : s₂.frames = .throwing q :: .java g :: U.frames.tail := hend
    have hW' : U.WarmedH s₂.vm := hW₂
    have hs₂ : s₂ = ((({ U with heap := s₂.heap, slotsUsed := s₂.slotsUsed } : State).setVm s₂.vm).setTop g).pushFrame (.throwing q) := by
      refine e3.trans ?_
      rw [hf₂, State.calling_eq h.top, State.setFrames_setFrames, State.pushFrame, State.frames_setTop _ hr', State.setTop_of_frames _ hr', State.setFrames_setFrames, hr]
      rfl
    have hsame : U.sameButNew ({ U with heap := s₂.heap, slotsUsed := s₂.slotsUsed } : State) L mc ms := by
      refine ⟨?_, q2, q3, q4, q5, q6⟩
      obtain ⟨t, ht, -⟩ := State.frames_cons hr
      show ({ U with heap := s₂.heap, slotsUsed := s₂.slotsUsed } : State) = { U.setFrames U.frames with heap := s₂.heap, slotsUsed := s₂.slotsUsed }
      rw [State.setFrames_self ht]
    subst hg
    refine Or.inr ⟨q, ⟨(({ U with heap := s₂.heap, slotsUsed := s₂.slotsUsed } : State).setVm s₂.vm), Ls ++ L, c0 + mc, s0 + ms⟩,
      ⟨X.admits, X.cas, X.clock, X.frames, X.room, X.hears, X.method, X.code, (X.here.setHeapUsed s₂.heap s₂.slotsUsed).setVm hW'.alike, X.tail, State.WarmedH.trans X.warmed hW', X.limits, X.bytes, X.same.trans (hsame.setVm s.vm)⟩,
      ⟨g, mk, s₂, L, E, ce, rfl, rfl, hx, hce, hcv, hcl, rfl, hL, rfl, rfl⟩, ?_⟩
    show Steps p.tables e below _ (((({ U with heap := s₂.heap, slotsUsed := s₂.slotsUsed } : State).setVm s₂.vm).setTop g).pushFrame (.throwing q))
    rw [← hs₂]
    exact hsteps
end Payer
section Calls
variable {p : Program} {l : Launch} {e : Env} {R : Room} {s : State} {m : MethodId} {args : Array Value} {below : List Frame} {meth : Method} {c : Code} {T : State} {locs : List Loc} {cells slots : Nat}
theorem vx_callV (X : Stand p l e R s m args below meth c T locs cells slots) (hexec : p.tables.exec = Jvm.exec) {own C : String} {index : Nat} {y : MethodName} {bytes : ByteArray} {maxL : Nat} {ret : Option FieldType}
    (hown : s.vm.findClass own = some m.cls) (hlink : (Cond.methodLink own index y).before args s = true) (hinst : (Cond.instanceMethod y).before args s = true) (hsel : (Cond.selects C y y).before args s = true)
    (hcode : (Cond.code y bytes maxL ret).before args s = true) (hy : y.cls ≠ "java/lang/invoke/MethodHandle" ∧ y.cls ≠ "java/lang/invoke/VarHandle")
    {W9 : Nat} {Pre : Pt → Array Value → Prop} {Post : Pt → Array Value → Option Value → Pt → Prop} {PostX : Pt → Array Value → Addr → Pt → Prop} (hK : vx_Back l R p e below s args y 3 W9 Pre Post PostX)
    {b : Addr} {cellB : Cell} (hcell : T.heap[b]? = some cellB) (hobj : cellB.vm.isStatics = false) (hcls : s.vm.findClass C = some cellB.cls)
    {g : JFrame} (hg : g.method = m) (hsize : g.locals.size = c.maxLocals) {argsL rest : List Value} (hlen : ∀ sig, parseMethodDescriptor y.desc = some sig → argsL.length = sig.parameters.length)
    (hstack : g.stack = argsL.reverse ++ .ref b :: rest) (hW : 2 * g.monitorRoom + (rest.map fun v => v.category).sum ≤ W9) (hdg : decode c.code g.pc = .ok (.invokevirtual index, 3))
    (hpre : ∀ vm₁, s.WarmedH vm₁ → Pre ⟨T.setVm vm₁, locs, cells, slots⟩ (Value.ref b :: argsL).toArray) :
    (∃ (v : Option Value) (vm₁ : Vm) (B : Pt), s.WarmedH vm₁ ∧ Stand p l e R s m args below meth c B.U B.locs B.cells B.slots ∧ Post ⟨T.setVm vm₁, locs, cells, slots⟩ (Value.ref b :: argsL).toArray v B ∧
      ∀ target, Steps p.tables e below (B.U.setTop { g with pc := g.pc + 3, stack := v.toList ++ rest }) target → Steps p.tables e below (T.setTop g) target) ∨
    (∃ (q : Addr) (vm₁ : Vm) (B : Pt), s.WarmedH vm₁ ∧ Stand p l e R s m args below meth c B.U B.locs B.cells B.slots ∧ PostX ⟨T.setVm vm₁, locs, cells, slots⟩ (Value.ref b :: argsL).toArray q B ∧
      Steps p.tables e below (T.setTop g) ((B.U.setTop { g with stack := rest }).pushFrame (.throwing q))) := by
  obtain ⟨mk, methM, hnamed, hmethM, hstM, habM⟩ := Cond.instanceMethod_spec hinst
  obtain ⟨methM', cM, hmethM', -, -, -, -, -, -, hsigM⟩ := Cond.code_spec hnamed hcode
  cases hmethM.symm.trans hmethM'
  obtain ⟨c2, r2, m2, q1, q2, q3, q4, kP, hkP, hkPi⟩ := Cond.selects_spec hsel
  cases hcls.symm.trans q1
  cases (State.methodFound?_of_named hnamed hy).symm.trans q2
  cases hnamed.symm.trans q3
  have hselP : selectMethod e.platform s.vm cellB.cls mk = .method mk := by rw [Launch.admits_selectMethod X.admits]; exact q4
  obtain ⟨vm₁, X₁, hstep₁⟩ := X.invokevirtual hexec hown hlink hnamed hmethM hstM hkP hkPi hy (a := b) (cell := cellB) hcell
    (fun z h => by rw [h] at hobj; cases hobj) hselP hmethM habM hkP hkPi (g := g) hg (argsL := argsL) (rest := rest) (hlen _ hsigM) hstack hdg
  rcases hK m meth c ⟨T.setVm vm₁, locs, cells, slots⟩ { g with stack := rest } (.invokevirtual index) mk (Value.ref b :: argsL).toArray X₁ hg hsize hdg hW (X₁.named hnamed) (hpre vm₁ X₁.warmed) with ⟨v, B, X', hpost, hsteps⟩ | ⟨q, B, X', hpost, hsteps⟩
  · exact Or.inl ⟨v, vm₁, B, X₁.warmed, X', hpost, fun target h => hstep₁ _ fun acts => by rw [doInvoke_state]; exact hsteps.trans h⟩
  · exact Or.inr ⟨q, vm₁, B, X₁.warmed, X', hpost, hstep₁ _ fun acts => by rw [doInvoke_state]; exact hsteps⟩
theorem vx_callS (X : Stand p l e R s m args below meth c T locs cells slots) (hexec : p.tables.exec = Jvm.exec) {own : String} {index : Nat} {y : MethodName} {bytes : ByteArray} {maxL : Nat} {ret : Option FieldType}
    (hown : s.vm.findClass own = some m.cls) (hlink : (Cond.methodLink own index y).before args s = true) (hstat : (Cond.static y).before args s = true) (hinit : (Cond.initialized y.cls).before args s = true)
    (hcode : (Cond.code y bytes maxL ret).before args s = true) (hy : y.cls ≠ "java/lang/invoke/MethodHandle" ∧ y.cls ≠ "java/lang/invoke/VarHandle")
    {W9 : Nat} {Pre : Pt → Array Value → Prop} {Post : Pt → Array Value → Option Value → Pt → Prop} {PostX : Pt → Array Value → Addr → Pt → Prop} (hK : vx_Back l R p e below s args y 3 W9 Pre Post PostX)
    {g : JFrame} (hg : g.method = m) (hsize : g.locals.size = c.maxLocals) {argsL rest : List Value} (hlen : ∀ sig, parseMethodDescriptor y.desc = some sig → argsL.length = sig.parameters.length)
    (hstack : g.stack = argsL.reverse ++ rest) (hW : 2 * g.monitorRoom + (rest.map fun v => v.category).sum ≤ W9) (hdg : decode c.code g.pc = .ok (.invokestatic index, 3))
    (hpre : ∀ vm₁, s.WarmedH vm₁ → Pre ⟨T.setVm vm₁, locs, cells, slots⟩ argsL.toArray) :
    (∃ (v : Option Value) (vm₁ : Vm) (B : Pt), s.WarmedH vm₁ ∧ Stand p l e R s m args below meth c B.U B.locs B.cells B.slots ∧ Post ⟨T.setVm vm₁, locs, cells, slots⟩ argsL.toArray v B ∧
      ∀ target, Steps p.tables e below (B.U.setTop { g with pc := g.pc + 3, stack := v.toList ++ rest }) target → Steps p.tables e below (T.setTop g) target) ∨
    (∃ (q : Addr) (vm₁ : Vm) (B : Pt), s.WarmedH vm₁ ∧ Stand p l e R s m args below meth c B.U B.locs B.cells B.slots ∧ PostX ⟨T.setVm vm₁, locs, cells, slots⟩ argsL.toArray q B ∧
      Steps p.tables e below (T.setTop g) ((B.U.setTop { g with stack := rest }).pushFrame (.throwing q))) := by
  obtain ⟨mk, hnamed⟩ := Cond.code_named hcode
  obtain ⟨methM, cM, hmethM, -, -, -, -, -, -, hsigM⟩ := Cond.code_spec hnamed hcode
  have hstatic : methM.isStatic = true := Cond.static_spec hnamed hmethM hstat
  obtain ⟨kP, hkP, -⟩ := className_of_methodNamed hnamed
  have hinitP : kP.init = .initialized := Cond.initialized_spec (findClass_of_methodNamed hnamed) hkP hinit
  obtain ⟨vm₁, X₁, hstep₁⟩ := X.invokestatic hexec hown hlink hnamed hmethM hstatic hkP hinitP hy (g := g) hg (argsL := argsL) (rest := rest) (hlen _ hsigM) hstack hdg
  rcases hK m meth c ⟨T.setVm vm₁, locs, cells, slots⟩ { g with stack := rest } (.invokestatic index) mk argsL.toArray X₁ hg hsize hdg hW (X₁.named hnamed) (hpre vm₁ X₁.warmed) with ⟨v, B, X', hpost, hsteps⟩ | ⟨q, B, X', hpost, hsteps⟩
  · exact Or.inl ⟨v, vm₁, B, X₁.warmed, X', hpost, fun target h => hstep₁ _ fun acts => by rw [doInvoke_state]; exact hsteps.trans h⟩
  · exact Or.inr ⟨q, vm₁, B, X₁.warmed, X', hpost, hstep₁ _ fun acts => by rw [doInvoke_state]; exact hsteps⟩
end Calls
theorem vx_cls {s : State} {T : State} {vm₁ : Vm} {E : String} {k : ClassId} (hW : s.WarmedH vm₁) (h : (T.setVm vm₁).vm.findClass E = some k) : s.vm.findClass E = some k := by
  have h1 : vm₁.findClass E = some k := h
  rw [hW.alike.findClass] at h1
  exact h1
/-- the method's frame g, with q thrown over it -/
def vx_W (p : Program) (l : Launch) (e : Env) (R : Room) (s : State) (m : MethodId) (args : Array Value) (below : List Frame) (meth : Method) (c : Code) (H : Heap) (locs : List Loc) (cells slots : Nat) (Q : State → Prop) (g : JFrame) (q : Addr) : Prop :=
  ∀ T : State, T.heap = H → Stand p l e R s m args below meth c T locs cells slots → ∃ t, Steps p.tables e below ((T.setTop g).pushFrame (.throwing q)) t ∧ Q t
def vx_Run (p : Program) (l : Launch) (e : Env) (R : Room) (s : State) (m : MethodId) (args : Array Value) (below : List Frame) (meth : Method) (c : Code) (H : Heap) (locs : List Loc) (cells slots mc ms : Nat) (g : JFrame) (rest : List Value) (Qa : State → Outcome → State → Prop) (XC : String → State → State → Prop) (free : Addr → Prop) : Prop :=
  ∀ T : State, T.heap = H → Stand p l e R s m args below meth c T locs cells slots →
    (∃ (v : Option Value) (st₀ t T' : State) (L : List Loc), st₀.heap = H ∧ Stand p l e R s m args below meth c T' (locs ++ L) (cells + mc) (slots + ms) ∧ (∀ q ∈ L, free q.base) ∧ T'.heap = t.heap ∧ T'.vm = t.vm ∧ Qa st₀ (.returned v) t ∧
      Goes p e below T g T' { g with pc := g.pc + 3, stack := v.toList ++ rest }) ∨
    (∃ (q : Addr) (st₀ t T' : State) (L : List Loc) (E : String) (ce : Cell), st₀.heap = H ∧ Stand p l e R s m args below meth c T' (locs ++ L) (cells + mc) (slots + ms) ∧ (∀ z ∈ L, free z.base) ∧ T'.heap = t.heap ∧ T'.vm = t.vm ∧ XC E st₀ t ∧ t.heap[q]? = some ce ∧ ce.vm = .none ∧ s.vm.findClass E = some ce.cls ∧
      Steps p.tables e below (T.setTop g) ((T'.setTop { g with stack := rest }).pushFrame (.throwing q)))
def vx_X {S : Type} (px : S → Prop) (B : String → S → State → Prop) (A : Nat → Prop) : String → State → State → Prop := fun E st t => ∃ u : S, px u ∧ B E u t ∧ va_F A st t
section Runs
variable {p : Program} {l : Launch} {e : Env} {R : Room} {s : State} {m : MethodId} {args : Array Value} {below : List Frame} {meth : Method} {c : Code} {H : Heap} {locs : List Loc} {cells slots : Nat}
variable {y : MethodName} {bytes cc : ByteArray} {maxL nL mc ms n index : Nat} {ret : Option FieldType} {ws : List Cond} {rm : Room} {Pc : Array Value → State → Prop} {Qc : Array Value → State → Outcome → State → Prop} {XC : String → State → State → Prop} {free : Addr → Prop} {Ts : List Cond} {own C : String} {b : Addr} {As rest : List Value} {g : JFrame}
theorem vx_callBack (cb : CallB R s args own index y bytes maxL ret ws rm mc ms n) (hM : vx_Met l y ws rm Pc Qc XC mc ms free) (hbl : FrameBlind Pc) : vx_Back l R p e below s args y 3 8 (PreOf R mc ms Pc) (PostOf Qc mc ms free) (vx_Post XC mc ms free) := by
  obtain ⟨hrc, hrs, hfr, hlo, hws, hcw, -, hini, -⟩ := cb
  exact vx_back (bytes := bytes) (maxL := maxL) (ret := ret) hM hbl hrc hrs hfr hlo hws hcw (fun a' U hW => word_at hW (Or.inl (by first | rfl | simp [Cond.onTables, Cond.keeps, Cond.steady])) hini)
theorem vx_runV (S : CallFix p m c cc nL s args Ts own) (hM : vx_Met l y ws rm Pc Qc XC mc ms free) (cw : CallW R s args own C index y bytes maxL ret ws rm mc ms n) (hp : PreV s H C b Pc As)
    (hg : g.method = m) (hn : As.length = n) (hsize : g.locals.size = nL) (hstack : g.stack = As.reverse ++ .ref b :: rest) (hW : 2 * g.monitorRoom + (rest.map fun v => v.category).sum ≤ 8) (hdg : decode cc g.pc = .ok (.invokevirtual index, 3)) (hf : cells + mc ≤ R.cells ∧ slots + ms ≤ R.slots) :
    vx_Run p l e R s m args below meth c H locs cells slots mc ms g rest (Qc (Value.ref b :: As).toArray) XC free := by
  have hK : vx_Back l R p e below s args y 3 8 (PreOf R mc ms Pc) (PostOf Qc mc ms free) (vx_Post XC mc ms free) := vx_callBack cw.1 hM hp.1
  obtain ⟨⟨-, -, -, -, -, -, hcode, -, hy, hlen, hl⟩, hin, hse⟩ := cw
  obtain ⟨hx, hb, hml, ho, -⟩ := S
  obtain ⟨-, ⟨cellB, hcB, hoB, hclB⟩, hPc⟩ := hp
  intro T hT X
  rcases vx_callV X hx (C := C) (bytes := bytes) (maxL := maxL) (ret := ret) ho hl hin hse hcode hy hK (by rw [hT]; exact hcB) hoB hclB hg (hsize.trans hml.symm) (argsL := As) (rest := rest) (fun sig h => hn.trans (hlen sig h)) hstack hW (by rw [hb]; exact hdg)
    (fun vm₁ hW₁ => ⟨hf.1, hf.2, hPc (T.setVm vm₁) hT hW₁⟩) with ⟨v, vm₁, ⟨U', l2, c2, s2⟩, hW₁, X', ⟨g', mk, t, L, e1, e2, hq, h1, hL, h2, h3⟩, st⟩ | ⟨q, vm₁, ⟨U', l2, c2, s2⟩, hW₁, X', ⟨g', mk, t, L, E, ce, e1, e2, hq, hce, hcv, hcl, h1, hL, h2, h3⟩, st⟩
  · dsimp only [Pt.U, Pt.locs, Pt.cells, Pt.slots] at X' e1 e2 h1 h2 h3 st
    subst h1; subst h2; subst h3
    exact Or.inl ⟨v, (T.setVm vm₁).calling g' mk (Value.ref b :: As).toArray, t, U', L, hT, X', hL, e1, e2, hq, st⟩
  · dsimp only [Pt.U, Pt.locs, Pt.cells, Pt.slots] at X' e1 e2 h1 h2 h3 st hcl
    subst h1; subst h2; subst h3
    exact Or.inr ⟨q, (T.setVm vm₁).calling g' mk (Value.ref b :: As).toArray, t, U', L, E, ce, hT, X', hL, e1, e2, hq, hce, hcv, vx_cls hW₁ hcl, st⟩
theorem vx_runS (S : CallFix p m c cc nL s args Ts own) (hM : vx_Met l y ws rm Pc Qc XC mc ms free) (cw : CallB R s args own index y bytes maxL ret ws rm mc ms n ∧ (Cond.static y).before args s = true) (hp : PreS s H Pc As)
    (hg : g.method = m) (hn : As.length = n) (hsize : g.locals.size = nL) (hstack : g.stack = As.reverse ++ rest) (hW : 2 * g.monitorRoom + (rest.map fun v => v.category).sum ≤ 8) (hdg : decode cc g.pc = .ok (.invokestatic index, 3)) (hf : cells + mc ≤ R.cells ∧ slots + ms ≤ R.slots) :
    vx_Run p l e R s m args below meth c H locs cells slots mc ms g rest (Qc As.toArray) XC free := by
  have hK : vx_Back l R p e below s args y 3 8 (PreOf R mc ms Pc) (PostOf Qc mc ms free) (vx_Post XC mc ms free) := vx_callBack cw.1 hM hp.1
  obtain ⟨⟨-, -, -, -, -, -, hcode, hini, hy, hlen, hl⟩, hstt⟩ := cw
  obtain ⟨hx, hb, hml, ho, -⟩ := S
  intro T hT X
  rcases vx_callS X hx (bytes := bytes) (maxL := maxL) (ret := ret) ho hl hstt hini hcode hy hK hg (hsize.trans hml.symm) (argsL := As) (rest := rest) (fun sig h => hn.trans (hlen sig h)) hstack hW (by rw [hb]; exact hdg)
    (fun vm₁ hW₁ => ⟨hf.1, hf.2, hp.2 (T.setVm vm₁) hT hW₁⟩) with ⟨v, vm₁, ⟨U', l2, c2, s2⟩, hW₁, X', ⟨g', mk, t, L, e1, e2, hq, h1, hL, h2, h3⟩, st⟩ | ⟨q, vm₁, ⟨U', l2, c2, s2⟩, hW₁, X', ⟨g', mk, t, L, E, ce, e1, e2, hq, hce, hcv, hcl, h1, hL, h2, h3⟩, st⟩
  · dsimp only [Pt.U, Pt.locs, Pt.cells, Pt.slots] at X' e1 e2 h1 h2 h3 st
    subst h1; subst h2; subst h3
    exact Or.inl ⟨v, (T.setVm vm₁).calling g' mk As.toArray, t, U', L, hT, X', hL, e1, e2, hq, st⟩
  · dsimp only [Pt.U, Pt.locs, Pt.cells, Pt.slots] at X' e1 e2 h1 h2 h3 st hcl
    subst h1; subst h2; subst h3
    exact Or.inr ⟨q, (T.setVm vm₁).calling g' mk As.toArray, t, U', L, E, ce, hT, X', hL, e1, e2, hq, hce, hcv, vx_cls hW₁ hcl, st⟩
end Runs
section Rows
variable {p : Program} {l : Launch} {e : Env} {R : Room} {s : State} {m : MethodId} {args : Array Value} {below : List Frame} {meth : Method} {c : Code} {H : Heap} {locs : List Loc} {cells slots : Nat} {Q : State → Prop}
variable {mc ms : Nat} {free : Addr → Prop} {A0 A1 : Nat → Prop} {H0 : Heap} {a : Array Value} {pc : Nat} {ls : Array Slot} {st0 rest : List Value}
theorem vx_keep {st₀ t T' : State} {L : List Loc} (h0 : st₀.heap = H) (e1 : T'.heap = t.heap) (hS : va_S A0 H0 H locs) (hA : ∀ q, q < H.size → A1 q → A0 q) (hf : ∀ q, free q → A0 q) (hL : ∀ q ∈ L, free q.base) (hF : va_F A1 st₀ t) :
    H.size ≤ T'.heap.size ∧ (∀ q : Nat, q < H.size → ¬ A1 q → T'.heap[q]? = H[q]?) ∧ va_S A0 H0 T'.heap (locs ++ L) := by
  obtain ⟨hz, hk⟩ := hF
  rw [h0] at hz hk
  exact ⟨by rw [e1]; exact hz, fun q h1 h2 => by rw [e1]; exact hk q h1 h2,
    ⟨Nat.le_trans hS.1 (by rw [e1]; exact hz), fun q h1 h2 => by rw [e1, hk q (Nat.lt_of_lt_of_le h1 hS.1) (fun z => h2 (hA q (Nat.lt_of_lt_of_le h1 hS.1) z))]; exact hS.2.1 q h1 h2, fun q hq => by
      rcases List.mem_append.mp hq with h | h
      · exact hS.2.2 q h
      · exact hf _ (hL q h)⟩⟩
theorem vx_calli {S SX : Type} {post : Int32 → S → Prop} {px : SX → Prop} {B : S → State → Prop} {BX : String → SX → State → Prop} {AX : Nat → Prop} (hr : vx_Run p l e R s m args below meth c H locs cells slots mc ms (F0 m pc ls st0) rest (va_Qi post B A1 a) (vx_X px BX AX) free) (hS : va_S A0 H0 H locs) (hA : ∀ q, q < H.size → A1 q → A0 q) (hf : ∀ q, free q → A0 q) (hAX : ∀ q, q < H.size → AX q → A0 q)
    (kx : ∀ (E : String) (ce : Cell) (q9 : Addr) (u : SX) (t : State) (H1 : Heap) (locs1 : List Loc), t.heap = H1 → s.vm.Alike t.vm → px u → BX E u t → H.size ≤ H1.size → (∀ q : Nat, q < H.size → ¬ AX q → H1[q]? = H[q]?) → va_S A0 H0 H1 locs1 → H1[q9]? = some ce → ce.vm = .none → s.vm.findClass E = some ce.cls → vx_W p l e R s m args below meth c H1 locs1 (cells + mc) (slots + ms) Q (F0 m pc ls rest) q9)
    (kk : ∀ (r : Int32) (u : S) (t : State) (H1 : Heap) (locs1 : List Loc), t.heap = H1 → s.vm.Alike t.vm → post r u → B u t → H.size ≤ H1.size → (∀ q : Nat, q < H.size → ¬ A1 q → H1[q]? = H[q]?) → va_S A0 H0 H1 locs1 → W p l e R s m args below meth c H1 locs1 (cells + mc) (slots + ms) Q (F0 m (pc + 3) ls (.int r :: rest))) : W p l e R s m args below meth c H locs cells slots Q (F0 m pc ls st0) := by
  intro T hT X
  rcases hr T hT X with ⟨v, st₀, t, T', L, h0, X', hL, e1, e2, ⟨⟨r, u, hv, hp, hb⟩, hF⟩, st⟩ | ⟨q, st₀, t, T', L, E, ce, h0, X', hL, e1, e2, ⟨u, hp, hb, hF⟩, hce, hcv, hcl, st⟩
  · cases hv
    obtain ⟨k1, k2, k3⟩ := vx_keep h0 e1 hS hA hf hL hF
    obtain ⟨t2, a1, b1⟩ := kk r u t T'.heap (locs ++ L) e1.symm (by rw [← e2]; exact X'.warmed.alike) hp hb k1 k2 k3 T' rfl X'
    exact ⟨t2, st t2 a1, b1⟩
  · obtain ⟨k1, k2, k3⟩ := vx_keep h0 e1 hS hAX hf hL hF
    obtain ⟨t2, a1, b1⟩ := kx E ce q u t T'.heap (locs ++ L) e1.symm (by rw [← e2]; exact X'.warmed.alike) hp hb k1 k2 k3 (by rw [e1]; exact hce) hcv hcl T' rfl X'
    exact ⟨t2, st.trans a1, b1⟩
theorem vx_calll {S SX : Type} {post : Int64 → S → Prop} {px : SX → Prop} {B : S → State → Prop} {BX : String → SX → State → Prop} {AX : Nat → Prop} (hr : vx_Run p l e R s m args below meth c H locs cells slots mc ms (F0 m pc ls st0) rest (va_Ql post B A1 a) (vx_X px BX AX) free) (hS : va_S A0 H0 H locs) (hA : ∀ q, q < H.size → A1 q → A0 q) (hf : ∀ q, free q → A0 q) (hAX : ∀ q, q < H.size → AX q → A0 q)
    (kx : ∀ (E : String) (ce : Cell) (q9 : Addr) (u : SX) (t : State) (H1 : Heap) (locs1 : List Loc), t.heap = H1 → s.vm.Alike t.vm → px u → BX E u t → H.size ≤ H1.size → (∀ q : Nat, q < H.size → ¬ AX q → H1[q]? = H[q]?) → va_S A0 H0 H1 locs1 → H1[q9]? = some ce → ce.vm = .none → s.vm.findClass E = some ce.cls → vx_W p l e R s m args below meth c H1 locs1 (cells + mc) (slots + ms) Q (F0 m pc ls rest) q9)
    (kk : ∀ (r : Int64) (u : S) (t : State) (H1 : Heap) (locs1 : List Loc), t.heap = H1 → s.vm.Alike t.vm → post r u → B u t → H.size ≤ H1.size → (∀ q : Nat, q < H.size → ¬ A1 q → H1[q]? = H[q]?) → va_S A0 H0 H1 locs1 → W p l e R s m args below meth c H1 locs1 (cells + mc) (slots + ms) Q (F0 m (pc + 3) ls (.long r :: rest))) : W p l e R s m args below meth c H locs cells slots Q (F0 m pc ls st0) := by
  intro T hT X
  rcases hr T hT X with ⟨v, st₀, t, T', L, h0, X', hL, e1, e2, ⟨⟨r, u, hv, hp, hb⟩, hF⟩, st⟩ | ⟨q, st₀, t, T', L, E, ce, h0, X', hL, e1, e2, ⟨u, hp, hb, hF⟩, hce, hcv, hcl, st⟩
  · cases hv
    obtain ⟨k1, k2, k3⟩ := vx_keep h0 e1 hS hA hf hL hF
    obtain ⟨t2, a1, b1⟩ := kk r u t T'.heap (locs ++ L) e1.symm (by rw [← e2]; exact X'.warmed.alike) hp hb k1 k2 k3 T' rfl X'
    exact ⟨t2, st t2 a1, b1⟩
  · obtain ⟨k1, k2, k3⟩ := vx_keep h0 e1 hS hAX hf hL hF
    obtain ⟨t2, a1, b1⟩ := kx E ce q u t T'.heap (locs ++ L) e1.symm (by rw [← e2]; exact X'.warmed.alike) hp hb k1 k2 k3 (by rw [e1]; exact hce) hcv hcl T' rfl X'
    exact ⟨t2, st.trans a1, b1⟩
theorem vx_callf {S SX : Type} {post : UInt32 → S → Prop} {px : SX → Prop} {B : S → State → Prop} {BX : String → SX → State → Prop} {AX : Nat → Prop} (hr : vx_Run p l e R s m args below meth c H locs cells slots mc ms (F0 m pc ls st0) rest (va_Qf post B A1 a) (vx_X px BX AX) free) (hS : va_S A0 H0 H locs) (hA : ∀ q, q < H.size → A1 q → A0 q) (hf : ∀ q, free q → A0 q) (hAX : ∀ q, q < H.size → AX q → A0 q)
    (kx : ∀ (E : String) (ce : Cell) (q9 : Addr) (u : SX) (t : State) (H1 : Heap) (locs1 : List Loc), t.heap = H1 → s.vm.Alike t.vm → px u → BX E u t → H.size ≤ H1.size → (∀ q : Nat, q < H.size → ¬ AX q → H1[q]? = H[q]?) → va_S A0 H0 H1 locs1 → H1[q9]? = some ce → ce.vm = .none → s.vm.findClass E = some ce.cls → vx_W p l e R s m args below meth c H1 locs1 (cells + mc) (slots + ms) Q (F0 m pc ls rest) q9)
    (kk : ∀ (r : UInt32) (u : S) (t : State) (H1 : Heap) (locs1 : List Loc), t.heap = H1 → s.vm.Alike t.vm → post r u → B u t → H.size ≤ H1.size → (∀ q : Nat, q < H.size → ¬ A1 q → H1[q]? = H[q]?) → va_S A0 H0 H1 locs1 → W p l e R s m args below meth c H1 locs1 (cells + mc) (slots + ms) Q (F0 m (pc + 3) ls (.float r :: rest))) : W p l e R s m args below meth c H locs cells slots Q (F0 m pc ls st0) := by
  intro T hT X
  rcases hr T hT X with ⟨v, st₀, t, T', L, h0, X', hL, e1, e2, ⟨⟨r, u, hv, hp, hb⟩, hF⟩, st⟩ | ⟨q, st₀, t, T', L, E, ce, h0, X', hL, e1, e2, ⟨u, hp, hb, hF⟩, hce, hcv, hcl, st⟩
  · cases hv
    obtain ⟨k1, k2, k3⟩ := vx_keep h0 e1 hS hA hf hL hF
    obtain ⟨t2, a1, b1⟩ := kk r u t T'.heap (locs ++ L) e1.symm (by rw [← e2]; exact X'.warmed.alike) hp hb k1 k2 k3 T' rfl X'
    exact ⟨t2, st t2 a1, b1⟩
  · obtain ⟨k1, k2, k3⟩ := vx_keep h0 e1 hS hAX hf hL hF
    obtain ⟨t2, a1, b1⟩ := kx E ce q u t T'.heap (locs ++ L) e1.symm (by rw [← e2]; exact X'.warmed.alike) hp hb k1 k2 k3 (by rw [e1]; exact hce) hcv hcl T' rfl X'
    exact ⟨t2, st.trans a1, b1⟩
theorem vx_calld {S SX : Type} {post : UInt64 → S → Prop} {px : SX → Prop} {B : S → State → Prop} {BX : String → SX → State → Prop} {AX : Nat → Prop} (hr : vx_Run p l e R s m args below meth c H locs cells slots mc ms (F0 m pc ls st0) rest (va_Qd post B A1 a) (vx_X px BX AX) free) (hS : va_S A0 H0 H locs) (hA : ∀ q, q < H.size → A1 q → A0 q) (hf : ∀ q, free q → A0 q) (hAX : ∀ q, q < H.size → AX q → A0 q)
    (kx : ∀ (E : String) (ce : Cell) (q9 : Addr) (u : SX) (t : State) (H1 : Heap) (locs1 : List Loc), t.heap = H1 → s.vm.Alike t.vm → px u → BX E u t → H.size ≤ H1.size → (∀ q : Nat, q < H.size → ¬ AX q → H1[q]? = H[q]?) → va_S A0 H0 H1 locs1 → H1[q9]? = some ce → ce.vm = .none → s.vm.findClass E = some ce.cls → vx_W p l e R s m args below meth c H1 locs1 (cells + mc) (slots + ms) Q (F0 m pc ls rest) q9)
    (kk : ∀ (r : UInt64) (u : S) (t : State) (H1 : Heap) (locs1 : List Loc), t.heap = H1 → s.vm.Alike t.vm → post r u → B u t → H.size ≤ H1.size → (∀ q : Nat, q < H.size → ¬ A1 q → H1[q]? = H[q]?) → va_S A0 H0 H1 locs1 → W p l e R s m args below meth c H1 locs1 (cells + mc) (slots + ms) Q (F0 m (pc + 3) ls (.double r :: rest))) : W p l e R s m args below meth c H locs cells slots Q (F0 m pc ls st0) := by
  intro T hT X
  rcases hr T hT X with ⟨v, st₀, t, T', L, h0, X', hL, e1, e2, ⟨⟨r, u, hv, hp, hb⟩, hF⟩, st⟩ | ⟨q, st₀, t, T', L, E, ce, h0, X', hL, e1, e2, ⟨u, hp, hb, hF⟩, hce, hcv, hcl, st⟩
  · cases hv
    obtain ⟨k1, k2, k3⟩ := vx_keep h0 e1 hS hA hf hL hF
    obtain ⟨t2, a1, b1⟩ := kk r u t T'.heap (locs ++ L) e1.symm (by rw [← e2]; exact X'.warmed.alike) hp hb k1 k2 k3 T' rfl X'
    exact ⟨t2, st t2 a1, b1⟩
  · obtain ⟨k1, k2, k3⟩ := vx_keep h0 e1 hS hAX hf hL hF
    obtain ⟨t2, a1, b1⟩ := kx E ce q u t T'.heap (locs ++ L) e1.symm (by rw [← e2]; exact X'.warmed.alike) hp hb k1 k2 k3 (by rw [e1]; exact hce) hcv hcl T' rfl X'
    exact ⟨t2, st.trans a1, b1⟩
theorem vx_callv {S SX : Type} {post : S → Prop} {px : SX → Prop} {B : S → State → Prop} {BX : String → SX → State → Prop} {AX : Nat → Prop} (hr : vx_Run p l e R s m args below meth c H locs cells slots mc ms (F0 m pc ls st0) rest (va_Qv post B A1 a) (vx_X px BX AX) free) (hS : va_S A0 H0 H locs) (hA : ∀ q, q < H.size → A1 q → A0 q) (hf : ∀ q, free q → A0 q) (hAX : ∀ q, q < H.size → AX q → A0 q)
    (kx : ∀ (E : String) (ce : Cell) (q9 : Addr) (u : SX) (t : State) (H1 : Heap) (locs1 : List Loc), t.heap = H1 → s.vm.Alike t.vm → px u → BX E u t → H.size ≤ H1.size → (∀ q : Nat, q < H.size → ¬ AX q → H1[q]? = H[q]?) → va_S A0 H0 H1 locs1 → H1[q9]? = some ce → ce.vm = .none → s.vm.findClass E = some ce.cls → vx_W p l e R s m args below meth c H1 locs1 (cells + mc) (slots + ms) Q (F0 m pc ls rest) q9)
    (kk : ∀ (u : S) (t : State) (H1 : Heap) (locs1 : List Loc), t.heap = H1 → s.vm.Alike t.vm → post u → B u t → H.size ≤ H1.size → (∀ q : Nat, q < H.size → ¬ A1 q → H1[q]? = H[q]?) → va_S A0 H0 H1 locs1 → W p l e R s m args below meth c H1 locs1 (cells + mc) (slots + ms) Q (F0 m (pc + 3) ls (rest))) : W p l e R s m args below meth c H locs cells slots Q (F0 m pc ls st0) := by
  intro T hT X
  rcases hr T hT X with ⟨v, st₀, t, T', L, h0, X', hL, e1, e2, ⟨⟨u, hv, hp, hb⟩, hF⟩, st⟩ | ⟨q, st₀, t, T', L, E, ce, h0, X', hL, e1, e2, ⟨u, hp, hb, hF⟩, hce, hcv, hcl, st⟩
  · cases hv
    obtain ⟨k1, k2, k3⟩ := vx_keep h0 e1 hS hA hf hL hF
    obtain ⟨t2, a1, b1⟩ := kk u t T'.heap (locs ++ L) e1.symm (by rw [← e2]; exact X'.warmed.alike) hp hb k1 k2 k3 T' rfl X'
    exact ⟨t2, st t2 a1, b1⟩
  · obtain ⟨k1, k2, k3⟩ := vx_keep h0 e1 hS hAX hf hL hF
    obtain ⟨t2, a1, b1⟩ := kx E ce q u t T'.heap (locs ++ L) e1.symm (by rw [← e2]; exact X'.warmed.alike) hp hb k1 k2 k3 (by rw [e1]; exact hce) hcv hcl T' rfl X'
    exact ⟨t2, st.trans a1, b1⟩
/-- caught by the row x of this method's table; the rows ahead don't take it -/
theorem vx_catch {own name : String} {E : String} {ce : Cell} {q : Addr} (hown : s.vm.findClass own = some m.cls) (pre : List ExceptionTableEntry) (x : ExceptionTableEntry) (suf : List ExceptionTableEntry) (hsplit : c.exceptionTable.toList = pre ++ x :: suf)
    (hpass : ∀ z ∈ pre, covers z pc = false ∨ (z.catchType ≠ 0 ∧ ∃ nm : String, (Cond.classLink own z.catchType nm).before args s = true ∧ va_Nc E nm s)) (hx : covers x pc = true) (h0 : x.catchType ≠ 0)
    (hlink : (Cond.classLink own x.catchType name).before args s = true) (hcast : (Cond.castable E name).before args s = true) (hcell : H[q]? = some ce) (hv : ce.vm = .none) (hcl : s.vm.findClass E = some ce.cls)
    (kk : W p l e R s m args below meth c H locs cells slots Q (F0 m x.handlerPc ls [.ref q])) : vx_W p l e R s m args below meth c H locs cells slots Q (F0 m pc ls rest) q := by
  intro T hT X
  have hpl : e.platform.magicAccessors = ({} : Platform).magicAccessors := by rw [X.admits.platform]
  obtain ⟨c3, c4, hc3, hc4, hasg⟩ := Cond.castable_spec hcast
  cases Option.some.inj (hc3.symm.trans hcl)
  obtain ⟨c5, hc5, hcl5⟩ := Cond.classLink_spec hown hlink e.platform hpl
  cases Option.some.inj (hc4.symm.trans hc5)
  obtain ⟨vm', X', st⟩ := X.thenCaughtThrough q (g := F0 m pc ls rest) rfl (Steps.refl _) (by rw [hT]; exact hcell) (by rw [hv]; rfl) (by obtain ⟨k9, h9, -⟩ := Vm.findClass_spec hcl; exact ⟨k9, h9⟩) pre x suf hsplit
    (fun z hz => by
      rcases hpass z hz with h | ⟨hz0, nm, hl1, hn1⟩
      · exact Or.inl h
      · obtain ⟨c6, hc6, hcl6⟩ := Cond.classLink_spec hown hl1 e.platform hpl
        obtain ⟨a8, b8, h1, h2, h3⟩ := hn1
        cases Option.some.inj (h1.symm.trans hcl)
        cases Option.some.inj (h2.symm.trans hc6)
        exact Or.inr ⟨hz0, _, hcl6, h3⟩) hx (Or.inr ⟨h0, c4, hcl5, hasg⟩)
  obtain ⟨t, a1, b1⟩ := kk (T.setVm vm') hT X'
  exact ⟨t, st.trans a1, b1⟩
end Rows
section Ends
variable {p : Program} {l : Launch} {e : Env} {R : Room} {s : State} {m : MethodId} {args : Array Value} {below : List Frame} {meth : Method} {c : Code} {H : Heap} {locs : List Loc} {cells slots : Nat} {Q : State → Prop}
variable {mc ms : Nat} {free : Addr → Prop} {A0 A1 : Nat → Prop} {H0 : Heap} {a : Array Value} {ls : Array Slot} {st0 rest : List Value}
variable {Qc : Array Value → State → Outcome → State → Prop} {XC : String → State → State → Prop}
/-- what a body that may throw owes at its end -/
def vx_MQ (below : List Frame) (Qc : Array Value → State → Outcome → State → Prop) (XC : String → State → State → Prop) (a : Array Value) (s : State) (mc ms : Nat) (free : Addr → Prop) : State → Prop := fun t =>
  ∃ o, t.status = .running ∧ Ended t below o ∧ vx_Q Qc XC mc ms free a s o t
theorem vx_ret {g : JFrame} {mc ms : Nat} (k : W p l e R s m args below meth c H locs cells slots (MQ below Qc args s mc ms free) g) : W p l e R s m args below meth c H locs cells slots (vx_MQ below Qc XC args s mc ms free) g := by
  intro T hT X
  obtain ⟨t, a1, o, b1, b2, b3, b4⟩ := k T hT X
  exact ⟨t, a1, o, b1, b2, Or.inl ⟨b3, b4⟩⟩
/-- not caught here: it goes on to the caller -/
theorem vx_widen {g : JFrame} {q : Addr} {k n : Nat} (h1 : cells ≤ k) (h2 : slots ≤ n) (kk : vx_W p l e R s m args below meth c H locs k n Q g q) : vx_W p l e R s m args below meth c H locs cells slots Q g q := fun T hT X => kk T hT (stand_widen X h1 h2)
theorem vx_out {pc : Nat} {E : String} {ce : Cell} {q : Addr} {mc ms : Nat} (hout : ∀ x ∈ c.exceptionTable.toList, covers x pc = false) (hlocks : meth.locks = false) (hcell : H[q]? = some ce) (hv : ce.vm = .none) (hcl : s.vm.findClass E = some ce.cls)
    (hx : ∀ t : State, t.heap = H → s.vm.Alike t.vm → XC E s t) (hf : ∀ z ∈ locs, free z.base) (hc : cells ≤ mc) (hs : slots ≤ ms) :
    vx_W p l e R s m args below meth c H locs cells slots (vx_MQ below Qc XC args s mc ms free) (F0 m pc ls rest) q := by
  intro T hT X
  obtain ⟨st1, hrun, hend, hW, hsm⟩ := X.leaveThrown q (g := F0 m pc ls rest) rfl rfl rfl hout hlocks
  have hcell9 : (T.setFrames (.throwing q :: below)).heap[q]? = some ce := by
    show T.heap[q]? = some ce
    rw [hT]; exact hcell
  exact ⟨_, st1, .threw q, hrun, hend, Or.inr ⟨q, rfl, E, ce, locs, hx _ hT hW.alike, hcell9, hv, hcl, hW, hsm.mono hc hs, hf⟩⟩
theorem vx_frame {U : State} {k n : Nat} (h : s.sameButNew ({ U with vm := s.vm } : State) locs k n) : s.heap.size ≤ U.heap.size ∧ ∀ q : Nat, q < s.heap.size → (∀ z ∈ locs, z.base ≠ q) → U.heap[q]? = s.heap[q]? := by
  obtain ⟨-, h2, -, -, -, h6⟩ := h
  refine ⟨h2, fun q hq hz => ?_⟩
  obtain ⟨c9, e1, e2, e3, e4⟩ := h6 q _ (Array.getElem?_eq_getElem hq)
  have hs : c9.slots = (s.heap[q]).slots := Array.ext_getElem? fun i => e4 i fun hm => hz _ hm rfl
  have h9 : c9 = s.heap[q] := by
    rw [hs] at e2
    exact e2
  have e5 : U.heap[q]? = some c9 := e1
  rw [e5, h9, Array.getElem?_eq_getElem hq]
/-- the words of a throw but the four that speak of the heap -/
def vx_no (w : Cond) : Bool := decide (w ≠ .isRef (.static Bundle.tN "UNASSIGNED_STACK" Bundle.steD)) && decide (w ≠ .isRef (.static Bundle.tN "SUPPRESSED_SENTINEL" Bundle.listD)) && decide (w ≠ .laysStatic Bundle.tN "UNASSIGNED_STACK" Bundle.steD) && decide (w ≠ .laysStatic Bundle.tN "SUPPRESSED_SENTINEL" Bundle.listD)
def vx_at0 (own : String) (ic : Nat) (X : String) (names : List String) : List Cond := (Bundle.ownAtoms0 own ic X names).filter vx_no
def vx_atS (own : String) (ic : Nat) (X : String) (names : List String) : List Cond := (Bundle.ownAtoms own ic X names).filter vx_no
/-- a word that the tables alone decide, or a good one -/
def vx_ot (w : Cond) : Bool := w.onTables || goodWord w
theorem vx_ot_at {args a' : Array Value} {s U : State} {w : Cond} (hW : s.WarmedH U.vm) (hvm : s.vm = U.vm) (hg : vx_ot w = true) (h : w.before args s = true) : w.before a' U = true := by
  simp only [vx_ot, Bool.or_eq_true] at hg
  rcases hg with hg | hg
  · exact va_tabs hg hvm h
  · exact word_at hW (good_of_word hg) h
/-- a list's words: the good ones out of the method's own list, the others by premises of their own -/
theorem vx_hat {args : Array Value} {s : State} {L B : List Cond} (h1 : ∀ w ∈ L.filter goodWord, w.before args s = true) (h2 : ∀ w ∈ L.filter (fun w => !goodWord w), w ∈ B) (h3 : ∀ w ∈ B, w.before args s = true) : ∀ w ∈ L, w.before args s = true := by
  intro w hw
  by_cases g : goodWord w = true
  · exact h1 w (List.mem_filter.mpr ⟨hw, g⟩)
  · refine h3 w (h2 w (List.mem_filter.mpr ⟨hw, ?_⟩))
    show (!goodWord w) = true
    cases hgw : goodWord w
    · rfl
    · exact absurd hgw g
theorem vx_c {args : Array Value} {s : State} {w : Cond} {B : List Cond} (h : w.before args s = true) (t : ∀ w ∈ B, w.before args s = true) : ∀ w' ∈ w :: B, w'.before args s = true := fun w' h' => (List.mem_cons.mp h').elim (fun e => by rw [e]; exact h) (t w')
theorem vx_n {args : Array Value} {s : State} : ∀ w ∈ ([] : List Cond), w.before args s = true := fun _ h => nomatch h
theorem vx_own {args : Array Value} {s : State} {L : List Cond} (h1 : ∀ w ∈ L.filter vx_no, w.before args s = true)
    (hU : (Cond.isRef (.static Bundle.tN "UNASSIGNED_STACK" Bundle.steD)).before args s = true) (hN : (Cond.isRef (.static Bundle.tN "SUPPRESSED_SENTINEL" Bundle.listD)).before args s = true)
    (lU : (Cond.laysStatic Bundle.tN "UNASSIGNED_STACK" Bundle.steD).before args s = true) (lN : (Cond.laysStatic Bundle.tN "SUPPRESSED_SENTINEL" Bundle.listD).before args s = true) : ∀ w ∈ L, w.before args s = true := by
  intro w hw
  by_cases e1 : w = .isRef (.static Bundle.tN "UNASSIGNED_STACK" Bundle.steD)
  · rw [e1]; exact hU
  · by_cases e2 : w = .isRef (.static Bundle.tN "SUPPRESSED_SENTINEL" Bundle.listD)
    · rw [e2]; exact hN
    · by_cases e3 : w = .laysStatic Bundle.tN "UNASSIGNED_STACK" Bundle.steD
      · rw [e3]; exact lU
      · by_cases e4 : w = .laysStatic Bundle.tN "SUPPRESSED_SENTINEL" Bundle.listD
        · rw [e4]; exact lN
        · exact h1 w (List.mem_filter.mpr ⟨hw, by unfold vx_no; rw [decide_eq_true e1, decide_eq_true e2, decide_eq_true e3, decide_eq_true e4]; rfl⟩)
/-- where a static field lies, its class's statics cell in H -/
def vx_L (C n d : String) (A : Nat → Prop) (U : State) (H : Heap) : Prop := ∃ (c : ClassId) (k : Class) (i : Nat) (f : Field) (a : Nat) (cell : Cell), U.vm.findClass C = some c ∧ U.fieldFound? C n d = some (c, k, i, f) ∧ f.isStatic = true ∧ k.statics = some a ∧ H[a]? = some cell ∧ cell.vm.isStatics = true ∧ cell.cls = c ∧ f.slot < cell.slots.size ∧ k.staticTypes[f.slot]? = some f.type ∧ ¬ A a
theorem vx_L.moved {C n d : String} {A : Nat → Prop} {u U : State} {H : Heap} (hvm : u.vm.Alike U.vm) (h : vx_L C n d A u H) : vx_L C n d A U H := by
  obtain ⟨c, k, i, f, a, cell, h1, h2, h3, h4, h5, h6, h7, h8, h9, h10⟩ := h
  obtain ⟨k', hi', he⟩ := State.fieldFound?_setVm hvm h2
  exact ⟨c, k', i, f, a, cell, by rw [hvm.findClass]; exact h1, hi', h3, by rw [he]; exact h4, h5, h6, h7, h8, by rw [he]; exact h9, h10⟩
theorem vx_L.kept {C n d : String} {A : Nat → Prop} {U : State} {H H1 : Heap} (h : vx_L C n d A U H) (hq : ∀ a : Nat, a < H.size → ¬ A a → H1[a]? = H[a]?) : vx_L C n d A U H1 := by
  obtain ⟨c, k, i, f, a, cell, h1, h2, h3, h4, h5, h6, h7, h8, h9, h10⟩ := h
  exact ⟨c, k, i, f, a, cell, h1, h2, h3, h4, by rw [hq a (Array.getElem?_eq_some_iff.mp h5).1 h10]; exact h5, h6, h7, h8, h9, h10⟩
theorem vx_L.narrow {C n d : String} {A B : Nat → Prop} {U : State} {H : Heap} (h : vx_L C n d A U H) (hAB : ∀ q, B q → A q) : vx_L C n d B U H := by
  obtain ⟨c, k, i, f, a, cell, h1, h2, h3, h4, h5, h6, h7, h8, h9, h10⟩ := h
  exact ⟨c, k, i, f, a, cell, h1, h2, h3, h4, h5, h6, h7, h8, h9, fun z => h10 (hAB _ z)⟩
theorem vx_L.word {C n d : String} {A : Nat → Prop} {s : State} {args : Array Value} (h : vx_L C n d A s s.heap) : (Cond.laysStatic C n d).before args s = true := by
  obtain ⟨c, k, i, f, a, cell, h1, h2, h3, h4, h5, h6, h7, h8, h9, -⟩ := h
  show (Cond.laysStatic C n d).holds args s none s [] = true
  exact Cond.laysStatic_of h1 h2 h3 h4 h5 h6 h7 h8 h9
/-- .. and what it holds: null or some reference -/
def vx_Zq (C n d : String) (A : Nat → Prop) (U : State) (H : Heap) : Prop := va_Zq C n d A U H ∧ vx_L C n d A U H
theorem vx_Zq.moved {C n d : String} {A : Nat → Prop} {u U : State} {H : Heap} (hvm : u.vm.Alike U.vm) (h : vx_Zq C n d A u H) : vx_Zq C n d A U H := ⟨va_Zq.moved hvm h.1, vx_L.moved hvm h.2⟩
theorem vx_Zq.kept {C n d : String} {A : Nat → Prop} {U : State} {H H1 : Heap} (h : vx_Zq C n d A U H) (hq : ∀ a : Nat, a < H.size → ¬ A a → H1[a]? = H[a]?) : vx_Zq C n d A U H1 := ⟨va_Zq.kept h.1 hq, vx_L.kept h.2 hq⟩
theorem vx_Zq.narrow {C n d : String} {A B : Nat → Prop} {U : State} {H : Heap} (h : vx_Zq C n d A U H) (hAB : ∀ q, B q → A q) : vx_Zq C n d B U H := ⟨va_Zq.narrow h.1 hAB, vx_L.narrow h.2 hAB⟩
theorem vx_Zqof {args : Array Value} {s : State} {C n d : String} {A : Nat → Prop} (hl : (Cond.laysStatic C n d).before args s = true) (hini : (Cond.initialized C).before args s = true) (h : (Cond.isRef (.static C n d)).before args s = true) (hA : ∀ a : Nat, a < s.heap.size → ¬ A a) : vx_Zq C n d A s s.heap := by
  refine ⟨va_Zqof hl hini h hA, ?_⟩
  obtain ⟨c, k, i, f, a, cell, h1, h2, h3, h4, h5, h6, h7, h8, h9⟩ := Cond.laysStatic_spec hl
  exact ⟨c, k, i, f, a, cell, h1, h2, h3, h4, h5, h6, h7, h8, h9, hA a (Array.getElem?_eq_some_iff.mp h5).1⟩
theorem vx_isRef {C n d : String} {v : Value} {A : Nat → Prop} {s : State} {args : Array Value} (h : va_Z C n d v A s s.heap) (hv : v.isRef = true) : (Cond.isRef (.static C n d)).before args s = true := by
  obtain ⟨cf, kf, fi, f, a, cell, h1, h2, h3, h4, h5, h6, h7, -⟩ := h
  have he : (Term.static C n d).eval args s none [] s = some v := by
    simp [Term.eval, State.fieldNamed?, h1, h2, h4, h5, h6, h7]
  simp only [Cond.before, Cond.holds, Cond.value, he]
  cases v <;> simp_all [Value.isRef]
theorem vx_isRefq {C n d : String} {A : Nat → Prop} {s : State} {args : Array Value} (h : va_Zq C n d A s s.heap) : (Cond.isRef (.static C n d)).before args s = true := by
  rcases h with h | ⟨t, h⟩
  · exact vx_isRef h rfl
  · exact vx_isRef h rfl
/-- the same frame, seen from here: as if the method were called anew in this heap -/
theorem vx_rebase {T : State} (X : Stand p l e R s m args below meth c T locs cells slots) {R' : Room} (hf : R'.frames ≤ R.frames) (hl : R'.locals ≤ R.locals) (hc : cells + R'.cells ≤ R.cells) (hs : slots + R'.slots ≤ R.slots) :
    Stand p l e R' ((T.setVm s.vm).setFrames (.invoking m args :: below)) m args below meth c T [] 0 0 := by
  have htop : (T.setVm s.vm).topJava?.isSome := X.here.top
  have hF : ((T.setVm s.vm).setFrames (.invoking m args :: below)).frames = .invoking m args :: below := State.frames_setFrames _ (State.cur_lt_of_top htop)
  obtain ⟨g₀, hg0⟩ := Option.isSome_iff_exists.mp htop
  obtain ⟨r, hr⟩ := State.topJava?_eq_some.mp hg0
  have hl9 : e.platform.stackLimits (T.setVm s.vm).me = e.platform.stackLimits s.me := X.limits
  have hb9 : (T.setVm s.vm).me.stackBytes = s.me.stackBytes := X.bytes
  refine ⟨X.admits, X.cas, X.clock, hF, ?_, X.hears, X.method, X.code, X.here, X.tail, X.warmed, ?_, ?_, ?_⟩
  · have h := X.room
    have hU : ((T.setVm s.vm).setFrames (.invoking m args :: below)).localsInUse = s.localsInUse := by
      rw [State.localsInUse_invoking hF (meth := meth) (c := c) X.method X.code, State.localsInUse_invoking X.frames X.method X.code]
    simp only [State.hasRoom, Bool.and_eq_true, decide_eq_true_eq] at h ⊢
    obtain ⟨⟨⟨⟨h1, h2, h3, h4, h5, h6⟩, h7⟩, h8⟩, h9⟩ := h
    rw [X.frames, List.length_cons] at h2 h3
    have q1 := X.heapSize
    have q2 := X.used
    simp only [hF, hU, List.length_cons, State.stackLimits_setFrames, State.stackBytes_setFrames, hl9, hb9]
    refine ⟨⟨⟨⟨by omega, by omega, by omega, by omega, by omega, h6⟩, ?_⟩, ?_⟩, X.book⟩
    · show T.heap.size + R'.cells ≤ e.platform.maxCells
      omega
    · show T.slotsUsed + R'.slots ≤ e.platform.maxSlots
      omega
  · rw [State.stackLimits_setFrames]; rfl
  · rw [State.stackBytes_setFrames]; rfl
  · refine ⟨?_, Nat.le_refl _, Nat.le_refl _, ?_, ?_, fun a c9 h9 => ⟨c9, h9, rfl, rfl, fun _ _ => rfl⟩⟩
    · obtain ⟨t, ht, -⟩ := State.frames_cons hr
      show T.setVm s.vm = { ((T.setVm s.vm).setFrames (.invoking m args :: below)).setFrames (T.setVm s.vm).frames with heap := T.heap, slotsUsed := T.slotsUsed }
      rw [State.setFrames_setFrames, State.setFrames_self ht]
      rfl
    · show T.slotsUsed = T.slotsUsed + ((T.heap.toList.drop T.heap.size).map (·.slots.size)).sum
      rw [List.drop_eq_nil_of_le (Nat.le_of_eq Array.length_toList)]
      rfl
    · show ((T.heap.toList.drop T.heap.size).map (·.slots.size)).sum ≤ 0
      rw [List.drop_eq_nil_of_le (Nat.le_of_eq Array.length_toList)]
      exact Nat.le_refl _
/-- 'throw new E()': new; dup; invokespecial; athrow -/
theorem vx_throw0 {cc : ByteArray} {pc : Nat} (hexec : p.tables.exec = Jvm.exec) (hb : c.code = cc) (hl : l.stackTraces = false) {own cls : String} {names : List String} {ik ic mc ms : Nat} {A : Nat → Prop}
    (hown : s.vm.findClass own = some m.cls) (hcls : Bundle.fit cls = true) (hnames : ∀ n ∈ names, Bundle.fit n = true)
    (hk : (Cond.classLink own ik cls).before args s = true) (hini : (Cond.initialized cls).before args s = true) (hat : ∀ w ∈ vx_at0 own ic cls names, w.before args s = true)
    (hgood : ∀ w ∈ Cond.classLink own ik cls :: Cond.initialized cls :: vx_at0 own ic cls names, vx_ot w = true)
    (hU : vx_Zq Bundle.tN "UNASSIGNED_STACK" Bundle.steD A s s.heap) (hN : vx_Zq Bundle.tN "SUPPRESSED_SENTINEL" Bundle.listD A s s.heap) (hS : va_S A s.heap H locs) (hsize : ls.size = c.maxLocals)
    (d0 : decode cc pc = .ok (.new ik, 3)) (d3 : decode cc (pc + 3) = .ok (.dup, 1)) (d4 : decode cc (pc + 4) = .ok (.invokespecial ic, 3)) (d7 : decode cc (pc + 7) = .ok (.athrow, 1))
    (hout : ∀ x ∈ c.exceptionTable.toList, covers x (pc + 7) = false)
    (hRframes : names.length + 3 < R.frames) (hRlocals : (rest.map fun v => v.category).sum + (13 * (names.length + 1) + 42) ≤ R.locals) (hRcells : cells + 1 ≤ R.cells) (hRslots : slots + 6 ≤ R.slots) (hlocks : meth.locks = false)
    (hx : ∀ t : State, s.vm.Alike t.vm → H.size ≤ t.heap.size → (∀ q : Nat, q < H.size → t.heap[q]? = H[q]?) → XC cls s t)
    (hf : ∀ z ∈ locs, free z.base) (hc : cells + 1 ≤ mc) (hs : slots + 6 ≤ ms) :
    W p l e R s m args below meth c H locs cells slots (vx_MQ below Qc XC args s mc ms free) (F0 m pc ls rest) := by
  intro T hT X
  have htr : e.platform.stackTraces = false := (show e.platform.stackTraces = l.stackTraces by rw [X.admits.platform]).trans hl
  have Y := vx_rebase X (R' := { frames := R.frames, locals := R.locals, cells := 1, slots := 6 }) (Nat.le_refl _) (Nat.le_refl _) hRcells hRslots
  obtain ⟨s', hA⟩ : ∃ z, z = (T.setVm s.vm).setFrames (.invoking m args :: below) := ⟨_, rfl⟩
  rw [← hA] at Y
  have hvm : s'.vm = s.vm := by rw [hA]; rfl
  have hhp : s'.heap = H := by rw [hA]; exact hT
  have hW0 : s.WarmedH s'.vm := by rw [hvm]; exact State.WarmedH.refl s
  have hat' : ∀ w ∈ vx_at0 own ic cls names, w.before args s' = true := fun w hw => vx_ot_at hW0 hvm.symm (hgood w (List.mem_cons_of_mem _ (List.mem_cons_of_mem _ hw))) (hat w hw)
  have hk' : (Cond.classLink own ik cls).before args s' = true := vx_ot_at hW0 hvm.symm (hgood _ List.mem_cons_self) hk
  have hini' : (Cond.initialized cls).before args s' = true := vx_ot_at hW0 hvm.symm (hgood _ (List.mem_cons_of_mem _ List.mem_cons_self)) hini
  have hU' : vx_Zq Bundle.tN "UNASSIGNED_STACK" Bundle.steD A s' s'.heap := by rw [hhp]; exact vx_Zq.moved hW0.alike (hU.kept hS.2.1)
  have hN' : vx_Zq Bundle.tN "SUPPRESSED_SENTINEL" Bundle.listD A s' s'.heap := by rw [hhp]; exact vx_Zq.moved hW0.alike (hN.kept hS.2.1)
  have h : ∀ w ∈ Bundle.ownAtoms0 own ic cls names, w.before args s' = true := vx_own hat' (vx_isRefq hU'.1) (vx_isRefq hN'.1) hU'.2.word hN'.2.word
  have hown' : s'.vm.findClass own = some m.cls := by rw [hvm]; exact hown
  have hins : (Cond.instantiable cls 6).before args s' = true := h _ (by simp [Bundle.ownAtoms0])
  obtain ⟨vm₁, cX, kX, hfX, hkX, -, -, X₁, st1⟩ := Y.newCold hexec (own := own) (C := cls) (index := ik) (n := 6) hown' hk' hins hini'
    (g := F0 m pc ls rest) rfl (by rw [hb]; exact d0) (Nat.le_refl _) (Nat.le_refl _)
  generalize hT1 : (T.setVm vm₁).pushCell { cls := cX, slots := kX.instanceTypes.map defaultValue, vm := .none } = T1 at X₁ st1
  have hcat : (Value.ref T.heap.size).category = 1 := rfl
  have hcellA : T1.heap[T.heap.size]? = some (freshCell cX kX) := by rw [← hT1]; exact State.heap_pushCell_size _ _
  have d3' : decode c.code (pc + 3) = .ok (.dup, 1) := by rw [hb]; exact d3
  obtain ⟨U, hsteps, hrun, hend, hW, hsame, ce, hce, hO⟩ := X₁.ctorThrow0 hexec htr (own := own) (cls := cls) (names := names) (ic := ic) hown' hcls hnames h (fun x hx => nomatch hx) hfX hkX hcellA (by rw [hhp, hT]; exact Nat.le_refl _)
    (g := { method := m, pc := pc + 4, locals := ls, stack := .ref T.heap.size :: .ref T.heap.size :: rest, locked := none }) rfl hsize rfl rfl (rest := rest) rfl
    (by rw [hb]; exact d4) (by rw [hb]; exact d7) hout hRframes (by simp only [List.map_cons, List.sum_cons, hcat]; omega) hlocks
  obtain ⟨f1, f2⟩ := vx_frame hsame
  rw [hhp] at f1 f2
  have hWs : s.WarmedH U.vm := State.WarmedH.trans hW0 hW
  have hcl : s.vm.findClass cls = some ce.cls := by
    have h9 := hO.cls
    rw [hvm] at h9
    exact h9
  have hall : s.sameButNew ({ U with vm := s.vm } : State) locs mc ms := by
    subst hA
    obtain ⟨e1, e2⟩ := hsame
    rw [State.setFrames_setFrames] at e1
    have h2 : (T.setVm s.vm).sameButNew ({ U with vm := s.vm } : State) [] (0 + 1) (0 + 6) := ⟨e1, e2⟩
    have h3 := X.same.trans h2
    rw [List.append_nil] at h3
    exact h3.mono hc hs
  refine ⟨U, ?_, .threw T.heap.size, hrun, hend, Or.inr ⟨T.heap.size, rfl, cls, ce, locs, hx U hWs.alike f1 (fun q hq => f2 q hq (fun z hz => nomatch hz)), hce, hO.vm, hcl, hWs, hall, hf⟩⟩
  refine st1 _ ?_
  show Steps p.tables e below (T1.setTop { method := m, pc := pc + 3, locals := ls, stack := .ref T.heap.size :: rest, locked := none }) _
  jvm_step X₁.here [X₁.here.top, hexec, d3', Value.category]
  exact hsteps
/-- 'throw new E("text")': new; dup; ldc; invokespecial; athrow -/
theorem vx_throwS {cc : ByteArray} {pc : Nat} (hexec : p.tables.exec = Jvm.exec) (hb : c.code = cc) (hl : l.stackTraces = false) {own cls text : String} {names : List String} {ik is ic mc ms sa : Nat} {A : Nat → Prop}
    (hown : s.vm.findClass own = some m.cls) (hcls : Bundle.fit cls = true) (hnames : ∀ n ∈ names, Bundle.fit n = true)
    (hk : (Cond.classLink own ik cls).before args s = true) (hini : (Cond.initialized cls).before args s = true) (hstr : vk_R own is text sa s) (hat : ∀ w ∈ vx_atS own ic cls names, w.before args s = true)
    (hgood : ∀ w ∈ Cond.classLink own ik cls :: Cond.initialized cls :: vx_atS own ic cls names, vx_ot w = true)
    (hU : vx_Zq Bundle.tN "UNASSIGNED_STACK" Bundle.steD A s s.heap) (hN : vx_Zq Bundle.tN "SUPPRESSED_SENTINEL" Bundle.listD A s s.heap) (hS : va_S A s.heap H locs) (hsize : ls.size = c.maxLocals)
    (d0 : decode cc pc = .ok (.new ik, 3)) (d3 : decode cc (pc + 3) = .ok (.dup, 1)) (d4 : decode cc (pc + 4) = .ok (.ldc is, 2)) (d6 : decode cc (pc + 6) = .ok (.invokespecial ic, 3)) (d9 : decode cc (pc + 9) = .ok (.athrow, 1))
    (hout : ∀ x ∈ c.exceptionTable.toList, covers x (pc + 9) = false)
    (hRframes : names.length + 3 < R.frames) (hRlocals : (rest.map fun v => v.category).sum + (13 * (names.length + 1) + 43) ≤ R.locals) (hRcells : cells + 1 ≤ R.cells) (hRslots : slots + 6 ≤ R.slots) (hlocks : meth.locks = false)
    (hx : ∀ t : State, s.vm.Alike t.vm → H.size ≤ t.heap.size → (∀ q : Nat, q < H.size → t.heap[q]? = H[q]?) → XC cls s t)
    (hf : ∀ z ∈ locs, free z.base) (hc : cells + 1 ≤ mc) (hs : slots + 6 ≤ ms) :
    W p l e R s m args below meth c H locs cells slots (vx_MQ below Qc XC args s mc ms free) (F0 m pc ls rest) := by
  intro T hT X
  have htr : e.platform.stackTraces = false := (show e.platform.stackTraces = l.stackTraces by rw [X.admits.platform]).trans hl
  have Y := vx_rebase X (R' := { frames := R.frames, locals := R.locals, cells := 1, slots := 6 }) (Nat.le_refl _) (Nat.le_refl _) hRcells hRslots
  obtain ⟨s', hA⟩ : ∃ z, z = (T.setVm s.vm).setFrames (.invoking m args :: below) := ⟨_, rfl⟩
  rw [← hA] at Y
  have hvm : s'.vm = s.vm := by rw [hA]; rfl
  have hhp : s'.heap = H := by rw [hA]; exact hT
  have hW0 : s.WarmedH s'.vm := by rw [hvm]; exact State.WarmedH.refl s
  have hat' : ∀ w ∈ vx_atS own ic cls names, w.before args s' = true := fun w hw => vx_ot_at hW0 hvm.symm (hgood w (List.mem_cons_of_mem _ (List.mem_cons_of_mem _ hw))) (hat w hw)
  have hk' : (Cond.classLink own ik cls).before args s' = true := vx_ot_at hW0 hvm.symm (hgood _ List.mem_cons_self) hk
  have hini' : (Cond.initialized cls).before args s' = true := vx_ot_at hW0 hvm.symm (hgood _ (List.mem_cons_of_mem _ List.mem_cons_self)) hini
  have hU' : vx_Zq Bundle.tN "UNASSIGNED_STACK" Bundle.steD A s' s'.heap := by rw [hhp]; exact vx_Zq.moved hW0.alike (hU.kept hS.2.1)
  have hN' : vx_Zq Bundle.tN "SUPPRESSED_SENTINEL" Bundle.listD A s' s'.heap := by rw [hhp]; exact vx_Zq.moved hW0.alike (hN.kept hS.2.1)
  have h : ∀ w ∈ Bundle.ownAtoms own ic cls names, w.before args s' = true := vx_own hat' (vx_isRefq hU'.1) (vx_isRefq hN'.1) hU'.2.word hN'.2.word
  have hown' : s'.vm.findClass own = some m.cls := by rw [hvm]; exact hown
  have hins : (Cond.instantiable cls 6).before args s' = true := h _ (by simp [Bundle.ownAtoms])
  obtain ⟨vm₁, cX, kX, hfX, hkX, -, -, X₁, st1⟩ := Y.newCold hexec (own := own) (C := cls) (index := ik) (n := 6) hown' hk' hins hini'
    (g := F0 m pc ls rest) rfl (by rw [hb]; exact d0) (Nat.le_refl _) (Nat.le_refl _)
  generalize hT1 : (T.setVm vm₁).pushCell { cls := cX, slots := kX.instanceTypes.map defaultValue, vm := .none } = T1 at X₁ st1
  have hcat : (Value.ref T.heap.size).category = 1 := rfl
  have hcellA : T1.heap[T.heap.size]? = some (freshCell cX kX) := by rw [← hT1]; exact State.heap_pushCell_size _ _
  have d3' : decode c.code (pc + 3) = .ok (.dup, 1) := by rw [hb]; exact d3
  have d4' : decode c.code (pc + 4) = .ok (.ldc is, 2) := by rw [hb]; exact d4
  have hstr' : vk_R own is text sa s' := vk_R.warm hW0 hstr
  obtain ⟨U, hsteps, hrun, hend, hW, hsame, ce, hce, hO⟩ := X₁.ctorThrowS hexec htr (own := own) (cls := cls) (names := names) (ic := ic) hown' hcls hnames h (fun x hx => nomatch hx) hfX hkX hcellA (by rw [hhp, hT]; exact Nat.le_refl _) (msg := .ref sa) rfl
    (g := { method := m, pc := pc + 6, locals := ls, stack := .ref sa :: .ref T.heap.size :: .ref T.heap.size :: rest, locked := none }) rfl hsize rfl rfl (rest := rest) rfl
    (by rw [hb]; exact d6) (by rw [hb]; exact d9) hout hRframes (by simp only [List.map_cons, List.sum_cons, hcat]; omega) hlocks
  obtain ⟨f1, f2⟩ := vx_frame hsame
  rw [hhp] at f1 f2
  have hWs : s.WarmedH U.vm := State.WarmedH.trans hW0 hW
  have hcl : s.vm.findClass cls = some ce.cls := by
    have h9 := hO.cls
    rw [hvm] at h9
    exact h9
  have hall : s.sameButNew ({ U with vm := s.vm } : State) locs mc ms := by
    subst hA
    obtain ⟨e1, e2⟩ := hsame
    rw [State.setFrames_setFrames] at e1
    have h2 : (T.setVm s.vm).sameButNew ({ U with vm := s.vm } : State) [] (0 + 1) (0 + 6) := ⟨e1, e2⟩
    have h3 := X.same.trans h2
    rw [List.append_nil] at h3
    exact h3.mono hc hs
  refine ⟨U, ?_, .threw T.heap.size, hrun, hend, Or.inr ⟨T.heap.size, rfl, cls, ce, locs, hx U hWs.alike f1 (fun q hq => f2 q hq (fun z hz => nomatch hz)), hce, hO.vm, hcl, hWs, hall, hf⟩⟩
  refine st1 _ ?_
  show Steps p.tables e below (T1.setTop { method := m, pc := pc + 3, locals := ls, stack := .ref T.heap.size :: rest, locked := none }) _
  jvm_step X₁.here [X₁.here.top, hexec, d3', Value.category]
  exact X₁.ldcString hexec (own := own) (text := text) (index := is) (a := sa) hown' hstr'.1 hstr'.2
    (g := { method := m, pc := pc + 4, locals := ls, stack := .ref T.heap.size :: .ref T.heap.size :: rest, locked := none }) rfl d4' _ hsteps
/-- 'throw new E("text")', the text by a wide index -/
theorem vx_throwSW {cc : ByteArray} {pc : Nat} (hexec : p.tables.exec = Jvm.exec) (hb : c.code = cc) (hl : l.stackTraces = false) {own cls text : String} {names : List String} {ik is ic mc ms sa : Nat} {A : Nat → Prop}
    (hown : s.vm.findClass own = some m.cls) (hcls : Bundle.fit cls = true) (hnames : ∀ n ∈ names, Bundle.fit n = true)
    (hk : (Cond.classLink own ik cls).before args s = true) (hini : (Cond.initialized cls).before args s = true) (hstr : vk_R own is text sa s) (hat : ∀ w ∈ vx_atS own ic cls names, w.before args s = true)
    (hgood : ∀ w ∈ Cond.classLink own ik cls :: Cond.initialized cls :: vx_atS own ic cls names, vx_ot w = true)
    (hU : vx_Zq Bundle.tN "UNASSIGNED_STACK" Bundle.steD A s s.heap) (hN : vx_Zq Bundle.tN "SUPPRESSED_SENTINEL" Bundle.listD A s s.heap) (hS : va_S A s.heap H locs) (hsize : ls.size = c.maxLocals)
    (d0 : decode cc pc = .ok (.new ik, 3)) (d3 : decode cc (pc + 3) = .ok (.dup, 1)) (d4 : decode cc (pc + 4) = .ok (.ldc_w is, 3)) (d7 : decode cc (pc + 7) = .ok (.invokespecial ic, 3)) (d10 : decode cc (pc + 10) = .ok (.athrow, 1))
    (hout : ∀ x ∈ c.exceptionTable.toList, covers x (pc + 10) = false)
    (hRframes : names.length + 3 < R.frames) (hRlocals : (rest.map fun v => v.category).sum + (13 * (names.length + 1) + 43) ≤ R.locals) (hRcells : cells + 1 ≤ R.cells) (hRslots : slots + 6 ≤ R.slots) (hlocks : meth.locks = false)
    (hx : ∀ t : State, s.vm.Alike t.vm → H.size ≤ t.heap.size → (∀ q : Nat, q < H.size → t.heap[q]? = H[q]?) → XC cls s t)
    (hf : ∀ z ∈ locs, free z.base) (hc : cells + 1 ≤ mc) (hs : slots + 6 ≤ ms) :
    W p l e R s m args below meth c H locs cells slots (vx_MQ below Qc XC args s mc ms free) (F0 m pc ls rest) := by
  intro T hT X
  have htr : e.platform.stackTraces = false := (show e.platform.stackTraces = l.stackTraces by rw [X.admits.platform]).trans hl
  have Y := vx_rebase X (R' := { frames := R.frames, locals := R.locals, cells := 1, slots := 6 }) (Nat.le_refl _) (Nat.le_refl _) hRcells hRslots
  obtain ⟨s', hA⟩ : ∃ z, z = (T.setVm s.vm).setFrames (.invoking m args :: below) := ⟨_, rfl⟩
  rw [← hA] at Y
  have hvm : s'.vm = s.vm := by rw [hA]; rfl
  have hhp : s'.heap = H := by rw [hA]; exact hT
  have hW0 : s.WarmedH s'.vm := by rw [hvm]; exact State.WarmedH.refl s
  have hat' : ∀ w ∈ vx_atS own ic cls names, w.before args s' = true := fun w hw => vx_ot_at hW0 hvm.symm (hgood w (List.mem_cons_of_mem _ (List.mem_cons_of_mem _ hw))) (hat w hw)
  have hk' : (Cond.classLink own ik cls).before args s' = true := vx_ot_at hW0 hvm.symm (hgood _ List.mem_cons_self) hk
  have hini' : (Cond.initialized cls).before args s' = true := vx_ot_at hW0 hvm.symm (hgood _ (List.mem_cons_of_mem _ List.mem_cons_self)) hini
  have hU' : vx_Zq Bundle.tN "UNASSIGNED_STACK" Bundle.steD A s' s'.heap := by rw [hhp]; exact vx_Zq.moved hW0.alike (hU.kept hS.2.1)
  have hN' : vx_Zq Bundle.tN "SUPPRESSED_SENTINEL" Bundle.listD A s' s'.heap := by rw [hhp]; exact vx_Zq.moved hW0.alike (hN.kept hS.2.1)
  have h : ∀ w ∈ Bundle.ownAtoms own ic cls names, w.before args s' = true := vx_own hat' (vx_isRefq hU'.1) (vx_isRefq hN'.1) hU'.2.word hN'.2.word
  have hown' : s'.vm.findClass own = some m.cls := by rw [hvm]; exact hown
  have hins : (Cond.instantiable cls 6).before args s' = true := h _ (by simp [Bundle.ownAtoms])
  obtain ⟨vm₁, cX, kX, hfX, hkX, -, -, X₁, st1⟩ := Y.newCold hexec (own := own) (C := cls) (index := ik) (n := 6) hown' hk' hins hini'
    (g := F0 m pc ls rest) rfl (by rw [hb]; exact d0) (Nat.le_refl _) (Nat.le_refl _)
  generalize hT1 : (T.setVm vm₁).pushCell { cls := cX, slots := kX.instanceTypes.map defaultValue, vm := .none } = T1 at X₁ st1
  have hcat : (Value.ref T.heap.size).category = 1 := rfl
  have hcellA : T1.heap[T.heap.size]? = some (freshCell cX kX) := by rw [← hT1]; exact State.heap_pushCell_size _ _
  have d3' : decode c.code (pc + 3) = .ok (.dup, 1) := by rw [hb]; exact d3
  have d4' : decode c.code (pc + 4) = .ok (.ldc_w is, 3) := by rw [hb]; exact d4
  have hstr' : vk_R own is text sa s' := vk_R.warm hW0 hstr
  obtain ⟨U, hsteps, hrun, hend, hW, hsame, ce, hce, hO⟩ := X₁.ctorThrowS hexec htr (own := own) (cls := cls) (names := names) (ic := ic) hown' hcls hnames h (fun x hx => nomatch hx) hfX hkX hcellA (by rw [hhp, hT]; exact Nat.le_refl _) (msg := .ref sa) rfl
    (g := { method := m, pc := pc + 7, locals := ls, stack := .ref sa :: .ref T.heap.size :: .ref T.heap.size :: rest, locked := none }) rfl hsize rfl rfl (rest := rest) rfl
    (by rw [hb]; exact d7) (by rw [hb]; exact d10) hout hRframes (by simp only [List.map_cons, List.sum_cons, hcat]; omega) hlocks
  obtain ⟨f1, f2⟩ := vx_frame hsame
  rw [hhp] at f1 f2
  have hWs : s.WarmedH U.vm := State.WarmedH.trans hW0 hW
  have hcl : s.vm.findClass cls = some ce.cls := by
    have h9 := hO.cls
    rw [hvm] at h9
    exact h9
  have hall : s.sameButNew ({ U with vm := s.vm } : State) locs mc ms := by
    subst hA
    obtain ⟨e1, e2⟩ := hsame
    rw [State.setFrames_setFrames] at e1
    have h2 : (T.setVm s.vm).sameButNew ({ U with vm := s.vm } : State) [] (0 + 1) (0 + 6) := ⟨e1, e2⟩
    have h3 := X.same.trans h2
    rw [List.append_nil] at h3
    exact h3.mono hc hs
  refine ⟨U, ?_, .threw T.heap.size, hrun, hend, Or.inr ⟨T.heap.size, rfl, cls, ce, locs, hx U hWs.alike f1 (fun q hq => f2 q hq (fun z hz => nomatch hz)), hce, hO.vm, hcl, hWs, hall, hf⟩⟩
  refine st1 _ ?_
  show Steps p.tables e below (T1.setTop { method := m, pc := pc + 3, locals := ls, stack := .ref T.heap.size :: rest, locked := none }) _
  jvm_step X₁.here [X₁.here.top, hexec, d3', Value.category]
  exact X₁.ldcStringW hexec (own := own) (text := text) (index := is) (a := sa) hown' hstr'.1 hstr'.2
    (g := { method := m, pc := pc + 4, locals := ls, stack := .ref T.heap.size :: .ref T.heap.size :: rest, locked := none }) rfl d4' _ hsteps
end Ends
section Bodies
variable {l : Launch}
theorem vx_ofW {y : MethodName} {ws ws' : List Cond} {rm : Room} {Pc : Array Value → State → Prop} {Qc : Array Value → State → Outcome → State → Prop} {XC : String → State → State → Prop} {mc ms : Nat} {free : Addr → Prop} {cc : ByteArray} {maxL : Nat} {ret : Option FieldType}
    (hy : plainName y.cls = true) (hw : ws = Cond.code y cc maxL ret :: ws')
    (body : ∀ p e s m args below meth c s₁, BodyLoose p l y (headSpec ws rm) cc maxL ret e s m args below meth c s₁ → c.maxLocals = maxL → (∀ x ∈ c.exceptionTable.toList, False) → Pc args s →
      W p l e (headSpec ws rm).room s m args below meth c s.heap [] 0 0 (vx_MQ below Qc XC args s mc ms free) (entryFrame m args maxL)) : vx_Met l y ws rm Pc Qc XC mc ms free := by
  refine MetFree.of_bodyS (code := cc) (maxLocals := maxL) (ret := ret) hy ?_ ?_
  · intro args s m h hn
    obtain ⟨meth, c, h1, h2, h3, h4, h5, h6, -, -⟩ := Cond.code_spec hn (atoms_spec (ws := ws) h _ (by rw [hw]; exact List.mem_cons_self))
    exact ⟨meth, c, h1, h2, h3, h4, h5, h6⟩
  · intro p e s m args below meth c s₁ B hml hP _
    have hh0 : s₁.heap = s.heap := by rw [B.state]; rfl
    have ht : ∀ x ∈ c.exceptionTable.toList, False := by
      obtain ⟨meth9, c9, h1, h2, -, -, -, -, h7, -⟩ := Cond.code_spec B.named (atoms_spec (ws := ws) B.pre _ (by rw [hw]; exact List.mem_cons_self))
      cases Option.some.inj (h1.symm.trans B.method)
      cases Option.some.inj (h2.symm.trans (Stand.of_body B).code)
      intro x hx
      rw [Array.isEmpty_iff.mp h7] at hx
      cases hx
    obtain ⟨t, a1, o, b1, b2, b3⟩ := body p e s m args below meth c s₁ B hml ht hP s₁ hh0 (Stand.of_body B)
    exact ⟨t, o, a1, b1, b2, b3⟩
/-- the table of a body with handlers -/
theorem vx_table {p : Program} {x y : MethodName} {S : Spec} {cc bytes : ByteArray} {maxL maxL' : Nat} {ret ret' : Option FieldType} {e : Env} {s s₁ : State} {m : MethodId} {args : Array Value} {below : List Frame} {meth : Method} {c : Code} {hh : List (Nat × Nat × Nat × Nat)}
    (B : BodyLoose p l y S cc maxL ret e s m args below meth c s₁) (h : (Cond.codeWith y bytes maxL' ret' hh).before args s = true) : c.exceptionTable.toList = tableOf hh := by
  obtain ⟨m9, meth9, c9, hn9, h1, h2, -, -, h6, -⟩ := Cond.codeWith_spec h
  cases Option.some.inj (hn9.symm.trans B.named)
  cases Option.some.inj (h1.symm.trans B.method)
  cases Option.some.inj (h2.symm.trans (Stand.of_body B).code)
  rw [← h6, table_eq]
end Bodies
end VXA
/-! ===== END ===== -/
/-! ===== BEGIN a static call of a method with an exception table ===== -/
section VXS
variable {p : Program} {l : Launch} {e : Env} {R : Room} {s : State} {m : MethodId} {args : Array Value} {below : List Frame} {meth : Method} {c : Code} {T : State} {H : Heap} {locs : List Loc} {cells slots : Nat}
abbrev vx_CSW (R : Room) (s : State) (args : Array Value) (own : String) (index : Nat) (y : MethodName) (bytes : ByteArray) (maxL : Nat) (ret : Option FieldType) (hh : List (Nat × Nat × Nat × Nat)) (ws : List Cond) (rm : Room) (mc ms n : Nat) : Prop :=
  (rm.cells = mc ∧ rm.slots = ms ∧ rm.frames + 1 ≤ R.frames ∧ 8 + (maxL + 11) + rm.locals ≤ R.locals ∧ (∀ w ∈ ws, ∀ (a' : Array Value) (U : State), s.WarmedH U.vm → w.before a' U = true) ∧ Cond.codeWith y bytes maxL ret hh ∈ ws) ∧
  (Cond.codeWith y bytes maxL ret hh).before args s = true ∧ (Cond.initialized y.cls).before args s = true ∧ (y.cls ≠ "java/lang/invoke/MethodHandle" ∧ y.cls ≠ "java/lang/invoke/VarHandle") ∧
  (∀ sig, parseMethodDescriptor y.desc = some sig → n = sig.parameters.length) ∧ (Cond.methodLink own index y).before args s = true ∧ (Cond.static y).before args s = true
theorem vx_cwSW {own : String} {index maxL mc ms : Nat} {y : MethodName} {bytes : ByteArray} {ret : Option FieldType} {hh : List (Nat × Nat × Nat × Nat)} {Ts ws ws' : List Cond} {rm : Room} (n : Nat) (ht : ∀ w ∈ Ts, w.before args s = true) (hT : GoodIn Ts (va_wsS own index y ws)) (hw : ws = Cond.codeWith y bytes maxL ret hh :: ws') (hrc : rm.cells = mc) (hrs : rm.slots = ms)
    (hd : y.cls ≠ "java/lang/invoke/MethodHandle" ∧ y.cls ≠ "java/lang/invoke/VarHandle" ∧ (parseMethodDescriptor y.desc).map (fun d => d.parameters.length) = some n) (hR : rm.frames + 1 ≤ R.frames ∧ 8 + (maxL + 11) + rm.locals ≤ R.locals) :
    vx_CSW R s args own index y bytes maxL ret hh ws rm mc ms n := by
  have ok : ∀ w ∈ va_wsS own index y ws, w.before args s = true := fun w h => ht w (hT w h).1
  have hG : GoodIn Ts ws := fun w h => hT w (by unfold va_wsS; exact List.mem_append_right _ h)
  have hc : Cond.codeWith y bytes maxL ret hh ∈ ws := by rw [hw]; exact List.mem_cons_self
  refine ⟨⟨hrc, hrs, hR.1, hR.2, pay_in ht hG, hc⟩, ht _ (hG _ hc).1, ok _ (by simp [va_wsS]), ⟨hd.1, hd.2.1⟩, fun sig h => ?_, ok _ (by simp [va_wsS]), ok _ (by simp [va_wsS])⟩
  have h2 := hd.2.2
  rw [h] at h2
  exact (Option.some.inj h2).symm
theorem vx_callSW (X : Stand p l e R s m args below meth c T locs cells slots) (hexec : p.tables.exec = Jvm.exec) {own : String} {index : Nat} {y : MethodName} {bytes : ByteArray} {maxL : Nat} {ret : Option FieldType} {hh : List (Nat × Nat × Nat × Nat)}
    (hown : s.vm.findClass own = some m.cls) (hlink : (Cond.methodLink own index y).before args s = true) (hstat : (Cond.static y).before args s = true) (hinit : (Cond.initialized y.cls).before args s = true)
    (hcode : (Cond.codeWith y bytes maxL ret hh).before args s = true) (hy : y.cls ≠ "java/lang/invoke/MethodHandle" ∧ y.cls ≠ "java/lang/invoke/VarHandle")
    {W9 : Nat} {Pre : Pt → Array Value → Prop} {Post : Pt → Array Value → Option Value → Pt → Prop} (hK : Back l R p e below s args y 3 W9 Pre Post)
    {g : JFrame} (hg : g.method = m) (hsize : g.locals.size = c.maxLocals) {argsL rest : List Value} (hlen : ∀ sig, parseMethodDescriptor y.desc = some sig → argsL.length = sig.parameters.length)
    (hstack : g.stack = argsL.reverse ++ rest) (hW : 2 * g.monitorRoom + (rest.map fun v => v.category).sum ≤ W9) (hdg : decode c.code g.pc = .ok (.invokestatic index, 3))
    (hpre : ∀ vm₁, s.WarmedH vm₁ → Pre ⟨T.setVm vm₁, locs, cells, slots⟩ argsL.toArray) :
    ∃ (v : Option Value) (vm₁ : Vm) (B : Pt), s.WarmedH vm₁ ∧ Stand p l e R s m args below meth c B.U B.locs B.cells B.slots ∧ Post ⟨T.setVm vm₁, locs, cells, slots⟩ argsL.toArray v B ∧
      ∀ target, Steps p.tables e below (B.U.setTop { g with pc := g.pc + 3, stack := v.toList ++ rest }) target → Steps p.tables e below (T.setTop g) target := by
  obtain ⟨mk, methM, cM, hnamed, hmethM, -, -, -, -, -, -, hsigM⟩ := Cond.codeWith_spec hcode
  have hstatic : methM.isStatic = true := Cond.static_spec hnamed hmethM hstat
  obtain ⟨kP, hkP, -⟩ := className_of_methodNamed hnamed
  have hinitP : kP.init = .initialized := Cond.initialized_spec (findClass_of_methodNamed hnamed) hkP hinit
  obtain ⟨vm₁, X₁, hstep₁⟩ := X.invokestatic hexec hown hlink hnamed hmethM hstatic hkP hinitP hy (g := g) hg (argsL := argsL) (rest := rest) (hlen _ hsigM) hstack hdg
  obtain ⟨v, B, X', hpost, hsteps⟩ := hK m meth c ⟨T.setVm vm₁, locs, cells, slots⟩ { g with stack := rest } (.invokestatic index) mk argsL.toArray X₁ hg hsize hdg hW (X₁.named hnamed) (hpre vm₁ X₁.warmed)
  exact ⟨v, vm₁, B, X₁.warmed, X', hpost, fun target h => hstep₁ _ fun acts => by rw [doInvoke_state]; exact hsteps.trans h⟩
theorem vx_runSW {y : MethodName} {bytes cc : ByteArray} {maxL nL mc ms n index : Nat} {ret : Option FieldType} {hh : List (Nat × Nat × Nat × Nat)} {ws : List Cond} {rm : Room} {Pc : Array Value → State → Prop} {Qc : Array Value → State → Outcome → State → Prop} {free : Addr → Prop} {Ts : List Cond} {own : String} {As rest : List Value} {g : JFrame}
    (S : CallFix p m c cc nL s args Ts own) (hM : Met l y ws rm Pc Qc mc ms free) (cw : vx_CSW R s args own index y bytes maxL ret hh ws rm mc ms n) (hp : PreS s H Pc As)
    (hg : g.method = m) (hn : As.length = n) (hsize : g.locals.size = nL) (hstack : g.stack = As.reverse ++ rest) (hW : 2 * g.monitorRoom + (rest.map fun v => v.category).sum ≤ 8) (hdg : decode cc g.pc = .ok (.invokestatic index, 3)) (hf : cells + mc ≤ R.cells ∧ slots + ms ≤ R.slots) :
    va_Run p l e R s m args below meth c H locs cells slots mc ms g rest (Qc As.toArray) (free) := by
  obtain ⟨⟨hrc, hrs, hfr, hlo, hws, hcw⟩, hcode, hini, hy, hlen, hl, hstt⟩ := cw
  have hK : Back l R p e below s args y 3 8 (PreOf R mc ms Pc) (PostOf Qc mc ms free) := va_backW (hh := hh) (bytes := bytes) (maxL := maxL) (ret := ret) hM hp.1 hrc hrs hfr hlo hws hcw (fun a' U hW => word_at hW (Or.inl (by first | rfl | simp [Cond.onTables, Cond.keeps, Cond.steady])) hini)
  obtain ⟨hx, hb, hml, ho, -⟩ := S
  intro T hT X
  obtain ⟨v, vm₁, ⟨U', l2, c2, s2⟩, hW₁, X', ⟨g', mk, t, L, e1, e2, hq, h1, hL, h2, h3⟩, st⟩ := vx_callSW X hx (hh := hh) (bytes := bytes) (maxL := maxL) (ret := ret) ho hl hstt hini hcode hy hK hg (hsize.trans hml.symm) (argsL := As) (rest := rest) (fun sig h => hn.trans (hlen sig h)) hstack hW (by rw [hb]; exact hdg)
    (fun vm₁ hW₁ => ⟨hf.1, hf.2, hp.2 (T.setVm vm₁) hT hW₁⟩)
  dsimp only [Pt.U, Pt.locs, Pt.cells, Pt.slots] at X' e1 e2 h1 h2 h3 st
  subst h1; subst h2; subst h3
  exact ⟨v, (T.setVm vm₁).calling g' mk As.toArray, t, U', L, hT, X', hL, e1, e2, hq, st⟩
/-- not caught here, past rows that name other classes: it goes on to the caller -/
theorem vx_outP {p : Program} {l : Launch} {e : Env} {R : Room} {s : State} {m : MethodId} {args : Array Value} {below : List Frame} {meth : Method} {c : Code} {H : Heap} {locs : List Loc} {cells slots : Nat} {free : Addr → Prop} {ls : Array Slot} {rest : List Value} {Qc : Array Value → State → Outcome → State → Prop} {XC : String → State → State → Prop}
    {pc : Nat} {own E : String} {ce : Cell} {q : Addr} {mc ms : Nat} (hown : s.vm.findClass own = some m.cls) (hlocks : meth.locks = false)
    (hpass : ∀ z ∈ c.exceptionTable.toList, covers z pc = false ∨ (z.catchType ≠ 0 ∧ ∃ nm : String, (Cond.classLink own z.catchType nm).before args s = true ∧ va_Nc E nm s)) (hcell : H[q]? = some ce) (hv : ce.vm = .none) (hcl : s.vm.findClass E = some ce.cls)
    (hx : ∀ t : State, t.heap = H → s.vm.Alike t.vm → XC E s t) (hf : ∀ z ∈ locs, free z.base) (hc : cells ≤ mc) (hs : slots ≤ ms) :
    vx_W p l e R s m args below meth c H locs cells slots (vx_MQ below Qc XC args s mc ms free) (F0 m pc ls rest) q := by
  intro T hT X
  have hpl : e.platform.magicAccessors = ({} : Platform).magicAccessors := by rw [X.admits.platform]
  obtain ⟨vm', hW', X', st⟩ := X.outThrough hlocks q (g := F0 m pc ls rest) rfl rfl rfl (cell := ce) (by rw [hT]; exact hcell) (by rw [hv]; rfl)
    (by obtain ⟨k9, h9, -⟩ := Vm.findClass_spec hcl; exact ⟨k9, h9⟩) (fun z hz => by
      rcases hpass z hz with h | ⟨hz0, nm, hl1, hn1⟩
      · exact Or.inl h
      · obtain ⟨c6, hc6, hcl6⟩ := Cond.classLink_spec hown hl1 e.platform hpl
        obtain ⟨a8, b8, h1, h2, h3⟩ := hn1
        cases Option.some.inj (h1.symm.trans hcl)
        cases Option.some.inj (h2.symm.trans hc6)
        exact Or.inr ⟨hz0, _, hcl6, h3⟩)
  obtain ⟨g₀, hfr⟩ := X'.frames_eq
  have hcell9 : ((T.setVm vm').setFrames (.throwing q :: below)).heap[q]? = some ce := by
    show T.heap[q]? = some ce
    rw [hT]; exact hcell
  have hend : Ended ((T.setVm vm').setFrames (.throwing q :: below)) below (.threw q) := State.frames_setFrames _ (State.cur_lt_of_frames hfr)
  refine ⟨(T.setVm vm').setFrames (.throwing q :: below), ?_, .threw q, X'.here.running, hend, Or.inr ⟨q, rfl, E, ce, locs, hx _ hT (X'.ends _).1.alike, hcell9, hv, hcl, (X'.ends _).1, (X'.ends _).2.mono hc hs, hf⟩⟩
  rw [X.pushThrowing_eq]
  exact st
/-- a thing of a world lies in the heap -/
theorem vx_lt {D : va_G} {cl : List vw_C} {ws : va_W} {H1 : Heap} (h : va_P D cl ws H1) {k : Nat} {q : Nat × va_E} (hk : ws[k]? = some q) : q.1 < H1.size := (h k q hk).lt
end VXS
/-! ===== END ===== -/
/-! ===== BEGIN methods with a table of their own: called by a name, returning or throwing ===== -/
section VXH
/-! vx_backW, vx_callVX, vx_callSX, vx_callVW, vx_runVW, vx_runVX, vx_runSX, vx_ofWH follow the same proofs as their sisters above (Free/Laws.lean, Shelf42/LK1.lean); vx_outP calls Shelf42/NT130.lean (outThrough). -/
section
variable {l : Launch} {R : Room} {p : Program} {e : Env} {below : List Frame} {s : State} {sargs : Array Value} {y : MethodName} {len W9 : Nat}
theorem vx_backW {ws : List Cond} {rm : Room} {Pc : Array Value → State → Prop} {Qc : Array Value → State → Outcome → State → Prop} {XC : String → State → State → Prop} {mc ms : Nat} {free : Addr → Prop} {bytes : ByteArray} {maxL : Nat} {ret : Option FieldType} {hh : List (Nat × Nat × Nat × Nat)}
    (hM : vx_Met l y ws rm Pc Qc XC mc ms free) (hblind : FrameBlind Pc) (hrc : rm.cells = mc) (hrs : rm.slots = ms)
    (hframes : rm.frames + 1 ≤ R.frames) (hlocals : W9 + (maxL + 11) + rm.locals ≤ R.locals)
    (hws : ∀ w ∈ ws, ∀ a' U, s.WarmedH U.vm → w.before a' U = true) (hcode : Cond.codeWith y bytes maxL ret hh ∈ ws) (hinit : ∀ a' U, s.WarmedH U.vm → (Cond.initialized y.cls).before a' U = true) :
    vx_Back l R p e below s sargs y len W9 (PreOf R mc ms Pc) (PostOf Qc mc ms free) (vx_Post XC mc ms free) := by
  intro m meth c A g ig mk a X hg hsize hdg hW hn hp
  have h1 : (headSpec ws rm).pre.before a A.U = true := atoms_intro fun w hw => hws w hw _ _ X.warmed
  have h2 : (Cond.codeWith y bytes maxL ret hh).before a A.U = true := hws _ hcode _ _ X.warmed
  have h3 : (Cond.initialized y.cls).before a A.U = true := hinit _ _ X.warmed
  have h4 : A.cells + (headSpec ws rm).room.cells ≤ R.cells := by rw [show (headSpec ws rm).room.cells = mc from hrc]; exact hp.1
  have h5 : A.slots + (headSpec ws rm).room.slots ≤ R.slots := by rw [show (headSpec ws rm).room.slots = ms from hrs]; exact hp.2.1
  have hPc : Pc a (A.U.calling g mk a) := hblind _ _ _ _ hp.2.2
  obtain ⟨U, Ls, c0, s0⟩ := A
  dsimp only [Pt.U, Pt.locs, Pt.cells, Pt.slots] at h1 h2 h3 h4 h5 X hn hPc ⊢
  obtain ⟨m9, methY, cY, hn9, hmY, hcY, -, hlY, -⟩ := Cond.codeWith_spec h2
  cases Option.some.inj (hn9.symm.trans hn)
  obtain ⟨kY, hkY, -⟩ := className_of_methodNamed hn
  have hinitY : kY.init = .initialized := Cond.initialized_spec (findClass_of_methodNamed hn) hkY h3
  have h : At U g.method c below := by rw [hg]; exact X.here
  have hlocals9 : W9 + (maxL + 11) + (headSpec ws rm).room.locals ≤ R.locals := hlocals
  have happ : (headSpec ws rm).appliesLoose y e.platform (U.calling g mk a) = true :=
    Spec.appliesLoose_calling (g := g) h hdg hn hkY hinitY
      (X.room_calling (g := g) (R' := (headSpec ws rm).room) hsize hmY hcY hframes (by rw [hlY]; omega) h4 h5) h1
  obtain ⟨mid, hmid⟩ := h.above
  have hfr : (U.setTop g).frames = (.java g :: mid) ++ below := by rw [State.frames_setTop' g h.top, hmid]; rfl
  obtain ⟨o, s₂, hsteps, -, hend, hq⟩ := Steps.callFree hM p X.admits X.cas X.clock (acts := []) hfr happ hPc trivial
  have hq' : vx_Q Qc XC mc ms free a (U.calling g mk a) o s₂ := hq
  rw [State.frames_setTop' g h.top] at hend
  obtain ⟨g₀, hg0⟩ := Option.isSome_iff_exists.mp h.top
  obtain ⟨r, hr⟩ := State.topJava?_eq_some.mp hg0
  have hr' : (({ U with heap := s₂.heap, slotsUsed := s₂.slotsUsed } : State).setVm s₂.vm).frames = .java g₀ :: r := hr
  rcases hq' with ⟨hqc, L, hfe, hL⟩ | ⟨q, rfl, E, ce, L, hx, hce, hcv, hcl, hW₂, hsm, hL⟩
  · obtain ⟨⟨v, rfl⟩, hW₂, e2, q2, q3, q4, q5, q6⟩ := id hfe
    have e3 : s₂ = ({ (U.calling g mk a).setFrames s₂.frames with heap := s₂.heap, slotsUsed := s₂.slotsUsed } : State).setVm s₂.vm := by
      have : s₂ = ({ s₂ with vm := (U.calling g mk a).vm } : State).setVm s₂.vm := rfl
      rw [e2] at this
      exact this
    obtain ⟨c₂, i₂, len₂, hc₂, hd₂, hf₂⟩ := hend
    have hW' : U.WarmedH s₂.vm := hW₂
    have hcc : c₂ = c := by
      have h1 : s₂.code? g.method = U.code? g.method := by
        rw [State.code?_eq, State.code?_eq, hW'.alike.method?]
      exact Option.some.inj (hc₂.symm.trans (h1.trans h.code))
    subst hcc
    have hlen : len₂ = len := by rw [hdg] at hd₂; cases hd₂; rfl
    subst hlen
    have hs₂ : s₂ = (({ U with heap := s₂.heap, slotsUsed := s₂.slotsUsed } : State).setVm s₂.vm).setTop { g with pc := g.pc + len₂, stack := v.toList ++ g.stack } := by
      refine e3.trans ?_
      rw [hf₂, State.calling_eq h.top, State.setFrames_setFrames, State.setTop_of_frames _ hr', hr]
      rfl
    have hsame : U.sameButNew ({ U with heap := s₂.heap, slotsUsed := s₂.slotsUsed } : State) L mc ms := by
      refine ⟨?_, q2, q3, q4, q5, q6⟩
      obtain ⟨t, ht, -⟩ := State.frames_cons hr
      show ({ U with heap := s₂.heap, slotsUsed := s₂.slotsUsed } : State) = { U.setFrames U.frames with heap := s₂.heap, slotsUsed := s₂.slotsUsed }
      rw [State.setFrames_self ht]
    subst hg
    refine Or.inl ⟨v, ⟨(({ U with heap := s₂.heap, slotsUsed := s₂.slotsUsed } : State).setVm s₂.vm), Ls ++ L, c0 + mc, s0 + ms⟩,
      ⟨X.admits, X.cas, X.clock, X.frames, X.room, X.hears, X.method, X.code, (X.here.setHeapUsed s₂.heap s₂.slotsUsed).setVm hW'.alike, X.tail, State.WarmedH.trans X.warmed hW', X.limits, X.bytes, X.same.trans (hsame.setVm s.vm)⟩,
      ⟨g, mk, s₂, L, rfl, rfl, hqc, rfl, hL, rfl, rfl⟩, ?_⟩
    show Steps p.tables e below _ ((({ U with heap := s₂.heap, slotsUsed := s₂.slotsUsed } : State).setVm s₂.vm).setTop { g with pc := g.pc + len₂, stack := v.toList ++ g.stack })
    rw [← hs₂]
    exact hsteps
  · obtain ⟨e2, q2, q3, q4, q5, q6⟩ := id hsm
    have e3 : s₂ = ({ (U.calling g mk a).setFrames s₂.frames with heap := s₂.heap, slotsUsed := s₂.slotsUsed } : State).setVm s₂.vm := by
      have : s₂ = ({ s₂ with vm := (U.calling g mk a).vm } : State).setVm s₂.vm := rfl
      rw [e2] at this
      exact this
    have hf₂ : s₂.frames = .throwing q :: .java g :: U.frames.tail := hend
    have hW' : U.WarmedH s₂.vm := hW₂
    have hs₂ : s₂ = ((({ U with heap := s₂.heap, slotsUsed := s₂.slotsUsed } : State).setVm s₂.vm).setTop g).pushFrame (.throwing q) := by
      refine e3.trans ?_
      rw [hf₂, State.calling_eq h.top, State.setFrames_setFrames, State.pushFrame, State.frames_setTop _ hr', State.setTop_of_frames _ hr', State.setFrames_setFrames, hr]
      rfl
    have hsame : U.sameButNew ({ U with heap := s₂.heap, slotsUsed := s₂.slotsUsed } : State) L mc ms := by
      refine ⟨?_, q2, q3, q4, q5, q6⟩
      obtain ⟨t, ht, -⟩ := State.frames_cons hr
      show ({ U with heap := s₂.heap, slotsUsed := s₂.slotsUsed } : State) = { U.setFrames U.frames with heap := s₂.heap, slotsUsed := s₂.slotsUsed }
      rw [State.setFrames_self ht]
    subst hg
    refine Or.inr ⟨q, ⟨(({ U with heap := s₂.heap, slotsUsed := s₂.slotsUsed } : State).setVm s₂.vm), Ls ++ L, c0 + mc, s0 + ms⟩,
      ⟨X.admits, X.cas, X.clock, X.frames, X.room, X.hears, X.method, X.code, (X.here.setHeapUsed s₂.heap s₂.slotsUsed).setVm hW'.alike, X.tail, State.WarmedH.trans X.warmed hW', X.limits, X.bytes, X.same.trans (hsame.setVm s.vm)⟩,
      ⟨g, mk, s₂, L, E, ce, rfl, rfl, hx, hce, hcv, hcl, rfl, hL, rfl, rfl⟩, ?_⟩
    show Steps p.tables e below _ (((({ U with heap := s₂.heap, slotsUsed := s₂.slotsUsed } : State).setVm s₂.vm).setTop g).pushFrame (.throwing q))
    rw [← hs₂]
    exact hsteps
end
variable {p : Program} {l : Launch} {e : Env} {R : Room} {s : State} {m : MethodId} {args : Array Value} {below : List Frame} {meth : Method} {c : Code} {T : State} {H : Heap} {locs : List Loc} {cells slots : Nat}
theorem vx_callVX (X : Stand p l e R s m args below meth c T locs cells slots) (hexec : p.tables.exec = Jvm.exec) {own C : String} {index : Nat} {y : MethodName} {bytes : ByteArray} {maxL : Nat} {ret : Option FieldType} {hh : List (Nat × Nat × Nat × Nat)}
    (hown : s.vm.findClass own = some m.cls) (hlink : (Cond.methodLink own index y).before args s = true) (hinst : (Cond.instanceMethod y).before args s = true) (hsel : (Cond.selects C y y).before args s = true)
    (hcode : (Cond.codeWith y bytes maxL ret hh).before args s = true) (hy : y.cls ≠ "java/lang/invoke/MethodHandle" ∧ y.cls ≠ "java/lang/invoke/VarHandle")
    {W9 : Nat} {Pre : Pt → Array Value → Prop} {Post : Pt → Array Value → Option Value → Pt → Prop} {PostX : Pt → Array Value → Addr → Pt → Prop} (hK : vx_Back l R p e below s args y 3 W9 Pre Post PostX)
    {b : Addr} {cellB : Cell} (hcell : T.heap[b]? = some cellB) (hobj : cellB.vm.isStatics = false) (hcls : s.vm.findClass C = some cellB.cls)
    {g : JFrame} (hg : g.method = m) (hsize : g.locals.size = c.maxLocals) {argsL rest : List Value} (hlen : ∀ sig, parseMethodDescriptor y.desc = some sig → argsL.length = sig.parameters.length)
    (hstack : g.stack = argsL.reverse ++ .ref b :: rest) (hW : 2 * g.monitorRoom + (rest.map fun v => v.category).sum ≤ W9) (hdg : decode c.code g.pc = .ok (.invokevirtual index, 3))
    (hpre : ∀ vm₁, s.WarmedH vm₁ → Pre ⟨T.setVm vm₁, locs, cells, slots⟩ (Value.ref b :: argsL).toArray) :
    (∃ (v : Option Value) (vm₁ : Vm) (B : Pt), s.WarmedH vm₁ ∧ Stand p l e R s m args below meth c B.U B.locs B.cells B.slots ∧ Post ⟨T.setVm vm₁, locs, cells, slots⟩ (Value.ref b :: argsL).toArray v B ∧
      ∀ target, Steps p.tables e below (B.U.setTop { g with pc := g.pc + 3, stack := v.toList ++ rest }) target → Steps p.tables e below (T.setTop g) target) ∨
    (∃ (q : Addr) (vm₁ : Vm) (B : Pt), s.WarmedH vm₁ ∧ Stand p l e R s m args below meth c B.U B.locs B.cells B.slots ∧ PostX ⟨T.setVm vm₁, locs, cells, slots⟩ (Value.ref b :: argsL).toArray q B ∧
      Steps p.tables e below (T.setTop g) ((B.U.setTop { g with stack := rest }).pushFrame (.throwing q))) := by
  obtain ⟨mk, methM, hnamed, hmethM, hstM, habM⟩ := Cond.instanceMethod_spec hinst
  obtain ⟨m8, methM', cM, hn8, hmethM', -, -, -, -, -, -, hsigM⟩ := Cond.codeWith_spec hcode
  cases Option.some.inj (hn8.symm.trans hnamed)
  cases hmethM.symm.trans hmethM'
  obtain ⟨c2, r2, m2, q1, q2, q3, q4, kP, hkP, hkPi⟩ := Cond.selects_spec hsel
  cases hcls.symm.trans q1
  cases (State.methodFound?_of_named hnamed hy).symm.trans q2
  cases hnamed.symm.trans q3
  have hselP : selectMethod e.platform s.vm cellB.cls mk = .method mk := by rw [Launch.admits_selectMethod X.admits]; exact q4
  obtain ⟨vm₁, X₁, hstep₁⟩ := X.invokevirtual hexec hown hlink hnamed hmethM hstM hkP hkPi hy (a := b) (cell := cellB) hcell
    (fun z h => by rw [h] at hobj; cases hobj) hselP hmethM habM hkP hkPi (g := g) hg (argsL := argsL) (rest := rest) (hlen _ hsigM) hstack hdg
  rcases hK m meth c ⟨T.setVm vm₁, locs, cells, slots⟩ { g with stack := rest } (.invokevirtual index) mk (Value.ref b :: argsL).toArray X₁ hg hsize hdg hW (X₁.named hnamed) (hpre vm₁ X₁.warmed) with ⟨v, B, X', hpost, hsteps⟩ | ⟨q, B, X', hpost, hsteps⟩
  · exact Or.inl ⟨v, vm₁, B, X₁.warmed, X', hpost, fun target h => hstep₁ _ fun acts => by rw [doInvoke_state]; exact hsteps.trans h⟩
  · exact Or.inr ⟨q, vm₁, B, X₁.warmed, X', hpost, hstep₁ _ fun acts => by rw [doInvoke_state]; exact hsteps⟩
theorem vx_callSX (X : Stand p l e R s m args below meth c T locs cells slots) (hexec : p.tables.exec = Jvm.exec) {own : String} {index : Nat} {y : MethodName} {bytes : ByteArray} {maxL : Nat} {ret : Option FieldType} {hh : List (Nat × Nat × Nat × Nat)}
    (hown : s.vm.findClass own = some m.cls) (hlink : (Cond.methodLink own index y).before args s = true) (hstat : (Cond.static y).before args s = true) (hinit : (Cond.initialized y.cls).before args s = true)
    (hcode : (Cond.codeWith y bytes maxL ret hh).before args s = true) (hy : y.cls ≠ "java/lang/invoke/MethodHandle" ∧ y.cls ≠ "java/lang/invoke/VarHandle")
    {W9 : Nat} {Pre : Pt → Array Value → Prop} {Post : Pt → Array Value → Option Value → Pt → Prop} {PostX : Pt → Array Value → Addr → Pt → Prop} (hK : vx_Back l R p e below s args y 3 W9 Pre Post PostX)
    {g : JFrame} (hg : g.method = m) (hsize : g.locals.size = c.maxLocals) {argsL rest : List Value} (hlen : ∀ sig, parseMethodDescriptor y.desc = some sig → argsL.length = sig.parameters.length)
    (hstack : g.stack = argsL.reverse ++ rest) (hW : 2 * g.monitorRoom + (rest.map fun v => v.category).sum ≤ W9) (hdg : decode c.code g.pc = .ok (.invokestatic index, 3))
    (hpre : ∀ vm₁, s.WarmedH vm₁ → Pre ⟨T.setVm vm₁, locs, cells, slots⟩ argsL.toArray) :
    (∃ (v : Option Value) (vm₁ : Vm) (B : Pt), s.WarmedH vm₁ ∧ Stand p l e R s m args below meth c B.U B.locs B.cells B.slots ∧ Post ⟨T.setVm vm₁, locs, cells, slots⟩ argsL.toArray v B ∧
      ∀ target, Steps p.tables e below (B.U.setTop { g with pc := g.pc + 3, stack := v.toList ++ rest }) target → Steps p.tables e below (T.setTop g) target) ∨
    (∃ (q : Addr) (vm₁ : Vm) (B : Pt), s.WarmedH vm₁ ∧ Stand p l e R s m args below meth c B.U B.locs B.cells B.slots ∧ PostX ⟨T.setVm vm₁, locs, cells, slots⟩ argsL.toArray q B ∧
      Steps p.tables e below (T.setTop g) ((B.U.setTop { g with stack := rest }).pushFrame (.throwing q))) := by
  obtain ⟨mk, methM, cM, hnamed, hmethM, -, -, -, -, -, -, hsigM⟩ := Cond.codeWith_spec hcode
  have hstatic : methM.isStatic = true := Cond.static_spec hnamed hmethM hstat
  obtain ⟨kP, hkP, -⟩ := className_of_methodNamed hnamed
  have hinitP : kP.init = .initialized := Cond.initialized_spec (findClass_of_methodNamed hnamed) hkP hinit
  obtain ⟨vm₁, X₁, hstep₁⟩ := X.invokestatic hexec hown hlink hnamed hmethM hstatic hkP hinitP hy (g := g) hg (argsL := argsL) (rest := rest) (hlen _ hsigM) hstack hdg
  rcases hK m meth c ⟨T.setVm vm₁, locs, cells, slots⟩ { g with stack := rest } (.invokestatic index) mk argsL.toArray X₁ hg hsize hdg hW (X₁.named hnamed) (hpre vm₁ X₁.warmed) with ⟨v, B, X', hpost, hsteps⟩ | ⟨q, B, X', hpost, hsteps⟩
  · exact Or.inl ⟨v, vm₁, B, X₁.warmed, X', hpost, fun target h => hstep₁ _ fun acts => by rw [doInvoke_state]; exact hsteps.trans h⟩
  · exact Or.inr ⟨q, vm₁, B, X₁.warmed, X', hpost, hstep₁ _ fun acts => by rw [doInvoke_state]; exact hsteps⟩
theorem vx_callVW (X : Stand p l e R s m args below meth c T locs cells slots) (hexec : p.tables.exec = Jvm.exec) {own C : String} {index : Nat} {y : MethodName} {bytes : ByteArray} {maxL : Nat} {ret : Option FieldType} {hh : List (Nat × Nat × Nat × Nat)}
    (hown : s.vm.findClass own = some m.cls) (hlink : (Cond.methodLink own index y).before args s = true) (hinst : (Cond.instanceMethod y).before args s = true) (hsel : (Cond.selects C y y).before args s = true)
    (hcode : (Cond.codeWith y bytes maxL ret hh).before args s = true) (hy : y.cls ≠ "java/lang/invoke/MethodHandle" ∧ y.cls ≠ "java/lang/invoke/VarHandle")
    {W9 : Nat} {Pre : Pt → Array Value → Prop} {Post : Pt → Array Value → Option Value → Pt → Prop} (hK : Back l R p e below s args y 3 W9 Pre Post)
    {b : Addr} {cellB : Cell} (hcell : T.heap[b]? = some cellB) (hobj : cellB.vm.isStatics = false) (hcls : s.vm.findClass C = some cellB.cls)
    {g : JFrame} (hg : g.method = m) (hsize : g.locals.size = c.maxLocals) {argsL rest : List Value} (hlen : ∀ sig, parseMethodDescriptor y.desc = some sig → argsL.length = sig.parameters.length)
    (hstack : g.stack = argsL.reverse ++ .ref b :: rest) (hW : 2 * g.monitorRoom + (rest.map fun v => v.category).sum ≤ W9) (hdg : decode c.code g.pc = .ok (.invokevirtual index, 3))
    (hpre : ∀ vm₁, s.WarmedH vm₁ → Pre ⟨T.setVm vm₁, locs, cells, slots⟩ (Value.ref b :: argsL).toArray) :
    ∃ (v : Option Value) (vm₁ : Vm) (B : Pt), s.WarmedH vm₁ ∧ Stand p l e R s m args below meth c B.U B.locs B.cells B.slots ∧ Post ⟨T.setVm vm₁, locs, cells, slots⟩ (Value.ref b :: argsL).toArray v B ∧
      ∀ target, Steps p.tables e below (B.U.setTop { g with pc := g.pc + 3, stack := v.toList ++ rest }) target → Steps p.tables e below (T.setTop g) target := by
  obtain ⟨mk, methM, hnamed, hmethM, hstM, habM⟩ := Cond.instanceMethod_spec hinst
  obtain ⟨m8, methM', cM, hn8, hmethM', -, -, -, -, -, -, hsigM⟩ := Cond.codeWith_spec hcode
  cases Option.some.inj (hn8.symm.trans hnamed)
  cases hmethM.symm.trans hmethM'
  obtain ⟨c2, r2, m2, q1, q2, q3, q4, kP, hkP, hkPi⟩ := Cond.selects_spec hsel
  cases hcls.symm.trans q1
  cases (State.methodFound?_of_named hnamed hy).symm.trans q2
  cases hnamed.symm.trans q3
  have hselP : selectMethod e.platform s.vm cellB.cls mk = .method mk := by rw [Launch.admits_selectMethod X.admits]; exact q4
  obtain ⟨vm₁, X₁, hstep₁⟩ := X.invokevirtual hexec hown hlink hnamed hmethM hstM hkP hkPi hy (a := b) (cell := cellB) hcell
    (fun z h => by rw [h] at hobj; cases hobj) hselP hmethM habM hkP hkPi (g := g) hg (argsL := argsL) (rest := rest) (hlen _ hsigM) hstack hdg
  obtain ⟨v, B, X', hpost, hsteps⟩ := hK m meth c ⟨T.setVm vm₁, locs, cells, slots⟩ { g with stack := rest } (.invokevirtual index) mk (Value.ref b :: argsL).toArray X₁ hg hsize hdg hW (X₁.named hnamed) (hpre vm₁ X₁.warmed)
  exact ⟨v, vm₁, B, X₁.warmed, X', hpost, fun target h => hstep₁ _ fun acts => by rw [doInvoke_state]; exact hsteps.trans h⟩
abbrev vx_CVW (R : Room) (s : State) (args : Array Value) (own C : String) (index : Nat) (y : MethodName) (bytes : ByteArray) (maxL : Nat) (ret : Option FieldType) (hh : List (Nat × Nat × Nat × Nat)) (ws : List Cond) (rm : Room) (mc ms n : Nat) : Prop :=
  (rm.cells = mc ∧ rm.slots = ms ∧ rm.frames + 1 ≤ R.frames ∧ 8 + (maxL + 11) + rm.locals ≤ R.locals ∧ (∀ w ∈ ws, ∀ (a' : Array Value) (U : State), s.WarmedH U.vm → w.before a' U = true) ∧ Cond.codeWith y bytes maxL ret hh ∈ ws) ∧
  (Cond.codeWith y bytes maxL ret hh).before args s = true ∧ (Cond.initialized y.cls).before args s = true ∧ (y.cls ≠ "java/lang/invoke/MethodHandle" ∧ y.cls ≠ "java/lang/invoke/VarHandle") ∧
  (∀ sig, parseMethodDescriptor y.desc = some sig → n = sig.parameters.length) ∧ (Cond.methodLink own index y).before args s = true ∧ (Cond.instanceMethod y).before args s = true ∧ (Cond.selects C y y).before args s = true
theorem vx_cwVW {own C : String} {index maxL mc ms : Nat} {y : MethodName} {bytes : ByteArray} {ret : Option FieldType} {hh : List (Nat × Nat × Nat × Nat)} {Ts ws ws' : List Cond} {rm : Room} (n : Nat) (ht : ∀ w ∈ Ts, w.before args s = true) (hT : GoodIn Ts (wsV own index C y ws)) (hw : ws = Cond.codeWith y bytes maxL ret hh :: ws') (hrc : rm.cells = mc) (hrs : rm.slots = ms)
    (hd : y.cls = C ∧ y.cls ≠ "java/lang/invoke/MethodHandle" ∧ y.cls ≠ "java/lang/invoke/VarHandle" ∧ (parseMethodDescriptor y.desc).map (fun d => d.parameters.length) = some n) (hR : rm.frames + 1 ≤ R.frames ∧ 8 + (maxL + 11) + rm.locals ≤ R.locals) :
    vx_CVW R s args own C index y bytes maxL ret hh ws rm mc ms n := by
  obtain ⟨hC, hd⟩ := hd
  subst hC
  have ok : ∀ w ∈ wsV own index y.cls y ws, w.before args s = true := fun w h => ht w (hT w h).1
  have hG : GoodIn Ts ws := fun w h => hT w (by unfold wsV; exact List.mem_append_right _ h)
  have hc : Cond.codeWith y bytes maxL ret hh ∈ ws := by rw [hw]; exact List.mem_cons_self
  refine ⟨⟨hrc, hrs, hR.1, hR.2, pay_in ht hG, hc⟩, ht _ (hG _ hc).1, ok _ (by simp [wsV]), ⟨hd.1, hd.2.1⟩, fun sig h => ?_, ok _ (by simp [wsV]), ok _ (by simp [wsV]), ok _ (by simp [wsV])⟩
  have h2 := hd.2.2
  rw [h] at h2
  exact (Option.some.inj h2).symm
theorem vx_runVW {y : MethodName} {bytes cc : ByteArray} {maxL nL mc ms n index : Nat} {ret : Option FieldType} {hh : List (Nat × Nat × Nat × Nat)} {ws : List Cond} {rm : Room} {Pc : Array Value → State → Prop} {Qc : Array Value → State → Outcome → State → Prop} {free : Addr → Prop} {Ts : List Cond} {own C : String} {b : Addr} {As rest : List Value} {g : JFrame}
    (S : CallFix p m c cc nL s args Ts own) (hM : Met l y ws rm Pc Qc mc ms free) (cw : vx_CVW R s args own C index y bytes maxL ret hh ws rm mc ms n) (hp : PreV s H C b Pc As)
    (hg : g.method = m) (hn : As.length = n) (hsize : g.locals.size = nL) (hstack : g.stack = As.reverse ++ .ref b :: rest) (hW : 2 * g.monitorRoom + (rest.map fun v => v.category).sum ≤ 8) (hdg : decode cc g.pc = .ok (.invokevirtual index, 3)) (hf : cells + mc ≤ R.cells ∧ slots + ms ≤ R.slots) :
    va_Run p l e R s m args below meth c H locs cells slots mc ms g rest (Qc (Value.ref b :: As).toArray) free := by
  obtain ⟨⟨hrc, hrs, hfr, hlo, hws, hcw⟩, hcode, hini, hy, hlen, hl, hin, hse⟩ := cw
  have hK : Back l R p e below s args y 3 8 (PreOf R mc ms Pc) (PostOf Qc mc ms free) := va_backW (hh := hh) (bytes := bytes) (maxL := maxL) (ret := ret) hM hp.1 hrc hrs hfr hlo hws hcw (fun a' U hW => word_at hW (Or.inl (by first | rfl | simp [Cond.onTables, Cond.keeps, Cond.steady])) hini)
  obtain ⟨hx, hb, hml, ho, -⟩ := S
  obtain ⟨-, ⟨cellB, hcB, hoB, hclB⟩, hPc⟩ := hp
  intro T hT X
  obtain ⟨v, vm₁, ⟨U', l2, c2, s2⟩, hW₁, X', ⟨g', mk, t, L, e1, e2, hq, h1, hL, h2, h3⟩, st⟩ := vx_callVW X hx (C := C) (hh := hh) (bytes := bytes) (maxL := maxL) (ret := ret) ho hl hin hse hcode hy hK (by rw [hT]; exact hcB) hoB hclB hg (hsize.trans hml.symm) (argsL := As) (rest := rest) (fun sig h => hn.trans (hlen sig h)) hstack hW (by rw [hb]; exact hdg)
    (fun vm₁ hW₁ => ⟨hf.1, hf.2, hPc (T.setVm vm₁) hT hW₁⟩)
  dsimp only [Pt.U, Pt.locs, Pt.cells, Pt.slots] at X' e1 e2 h1 h2 h3 st
  subst h1; subst h2; subst h3
  exact ⟨v, (T.setVm vm₁).calling g' mk (Value.ref b :: As).toArray, t, U', L, hT, X', hL, e1, e2, hq, st⟩
section
variable {y : MethodName} {bytes cc : ByteArray} {maxL nL mc ms n index : Nat} {ret : Option FieldType} {ws : List Cond} {rm : Room} {Pc : Array Value → State → Prop} {Qc : Array Value → State → Outcome → State → Prop} {XC : String → State → State → Prop} {free : Addr → Prop} {Ts : List Cond} {own C : String} {b : Addr} {As rest : List Value} {g : JFrame}
theorem vx_runVX {hh : List (Nat × Nat × Nat × Nat)} (S : CallFix p m c cc nL s args Ts own) (hM : vx_Met l y ws rm Pc Qc XC mc ms free) (cw : vx_CVW R s args own C index y bytes maxL ret hh ws rm mc ms n) (hp : PreV s H C b Pc As)
    (hg : g.method = m) (hn : As.length = n) (hsize : g.locals.size = nL) (hstack : g.stack = As.reverse ++ .ref b :: rest) (hW : 2 * g.monitorRoom + (rest.map fun v => v.category).sum ≤ 8) (hdg : decode cc g.pc = .ok (.invokevirtual index, 3)) (hf : cells + mc ≤ R.cells ∧ slots + ms ≤ R.slots) :
    vx_Run p l e R s m args below meth c H locs cells slots mc ms g rest (Qc (Value.ref b :: As).toArray) XC free := by
  obtain ⟨⟨hrc, hrs, hfr, hlo, hws, hcw⟩, hcode, hini, hy, hlen, hl, hin, hse⟩ := cw
  have hK : vx_Back l R p e below s args y 3 8 (PreOf R mc ms Pc) (PostOf Qc mc ms free) (vx_Post XC mc ms free) := vx_backW (hh := hh) (bytes := bytes) (maxL := maxL) (ret := ret) hM hp.1 hrc hrs hfr hlo hws hcw (fun a' U hW => word_at hW (Or.inl (by first | rfl | simp [Cond.onTables, Cond.keeps, Cond.steady])) hini)
  obtain ⟨hx, hb, hml, ho, -⟩ := S
  obtain ⟨-, ⟨cellB, hcB, hoB, hclB⟩, hPc⟩ := hp
  intro T hT X
  rcases vx_callVX X hx (C := C) (hh := hh) (bytes := bytes) (maxL := maxL) (ret := ret) ho hl hin hse hcode hy hK (by rw [hT]; exact hcB) hoB hclB hg (hsize.trans hml.symm) (argsL := As) (rest := rest) (fun sig h => hn.trans (hlen sig h)) hstack hW (by rw [hb]; exact hdg)
    (fun vm₁ hW₁ => ⟨hf.1, hf.2, hPc (T.setVm vm₁) hT hW₁⟩) with ⟨v, vm₁, ⟨U', l2, c2, s2⟩, hW₁, X', ⟨g', mk, t, L, e1, e2, hq, h1, hL, h2, h3⟩, st⟩ | ⟨q, vm₁, ⟨U', l2, c2, s2⟩, hW₁, X', ⟨g', mk, t, L, E, ce, e1, e2, hq, hce, hcv, hcl, h1, hL, h2, h3⟩, st⟩
  · dsimp only [Pt.U, Pt.locs, Pt.cells, Pt.slots] at X' e1 e2 h1 h2 h3 st
    subst h1; subst h2; subst h3
    exact Or.inl ⟨v, (T.setVm vm₁).calling g' mk (Value.ref b :: As).toArray, t, U', L, hT, X', hL, e1, e2, hq, st⟩
  · dsimp only [Pt.U, Pt.locs, Pt.cells, Pt.slots] at X' e1 e2 h1 h2 h3 st hcl
    subst h1; subst h2; subst h3
    exact Or.inr ⟨q, (T.setVm vm₁).calling g' mk (Value.ref b :: As).toArray, t, U', L, E, ce, hT, X', hL, e1, e2, hq, hce, hcv, vx_cls hW₁ hcl, st⟩
theorem vx_runSX {hh : List (Nat × Nat × Nat × Nat)} (S : CallFix p m c cc nL s args Ts own) (hM : vx_Met l y ws rm Pc Qc XC mc ms free) (cw : vx_CSW R s args own index y bytes maxL ret hh ws rm mc ms n) (hp : PreS s H Pc As)
    (hg : g.method = m) (hn : As.length = n) (hsize : g.locals.size = nL) (hstack : g.stack = As.reverse ++ rest) (hW : 2 * g.monitorRoom + (rest.map fun v => v.category).sum ≤ 8) (hdg : decode cc g.pc = .ok (.invokestatic index, 3)) (hf : cells + mc ≤ R.cells ∧ slots + ms ≤ R.slots) :
    vx_Run p l e R s m args below meth c H locs cells slots mc ms g rest (Qc As.toArray) XC free := by
  obtain ⟨⟨hrc, hrs, hfr, hlo, hws, hcw⟩, hcode, hini, hy, hlen, hl, hstt⟩ := cw
  have hK : vx_Back l R p e below s args y 3 8 (PreOf R mc ms Pc) (PostOf Qc mc ms free) (vx_Post XC mc ms free) := vx_backW (hh := hh) (bytes := bytes) (maxL := maxL) (ret := ret) hM hp.1 hrc hrs hfr hlo hws hcw (fun a' U hW => word_at hW (Or.inl (by first | rfl | simp [Cond.onTables, Cond.keeps, Cond.steady])) hini)
  obtain ⟨hx, hb, hml, ho, -⟩ := S
  intro T hT X
  rcases vx_callSX X hx (hh := hh) (bytes := bytes) (maxL := maxL) (ret := ret) ho hl hstt hini hcode hy hK hg (hsize.trans hml.symm) (argsL := As) (rest := rest) (fun sig h => hn.trans (hlen sig h)) hstack hW (by rw [hb]; exact hdg)
    (fun vm₁ hW₁ => ⟨hf.1, hf.2, hp.2 (T.setVm vm₁) hT hW₁⟩) with ⟨v, vm₁, ⟨U', l2, c2, s2⟩, hW₁, X', ⟨g', mk, t, L, e1, e2, hq, h1, hL, h2, h3⟩, st⟩ | ⟨q, vm₁, ⟨U', l2, c2, s2⟩, hW₁, X', ⟨g', mk, t, L, E, ce, e1, e2, hq, hce, hcv, hcl, h1, hL, h2, h3⟩, st⟩
  · dsimp only [Pt.U, Pt.locs, Pt.cells, Pt.slots] at X' e1 e2 h1 h2 h3 st
    subst h1; subst h2; subst h3
    exact Or.inl ⟨v, (T.setVm vm₁).calling g' mk As.toArray, t, U', L, hT, X', hL, e1, e2, hq, st⟩
  · dsimp only [Pt.U, Pt.locs, Pt.cells, Pt.slots] at X' e1 e2 h1 h2 h3 st hcl
    subst h1; subst h2; subst h3
    exact Or.inr ⟨q, (T.setVm vm₁).calling g' mk As.toArray, t, U', L, E, ce, hT, X', hL, e1, e2, hq, hce, hcv, vx_cls hW₁ hcl, st⟩
end
end VXH
theorem vx_ofWH {l : Launch} {y : MethodName} {ws ws' : List Cond} {rm : Room} {Pc : Array Value → State → Prop} {Qc : Array Value → State → Outcome → State → Prop} {XC : String → State → State → Prop} {mc ms : Nat} {free : Addr → Prop} {cc : ByteArray} {maxL : Nat} {ret : Option FieldType} {hh : List (Nat × Nat × Nat × Nat)}
    (hy : plainName y.cls = true) (hw : ws = Cond.codeWith y cc maxL ret hh :: ws')
    (body : ∀ p e s m args below meth c s₁, BodyLoose p l y (headSpec ws rm) cc maxL ret e s m args below meth c s₁ → c.maxLocals = maxL → Pc args s →
      W p l e (headSpec ws rm).room s m args below meth c s.heap [] 0 0 (vx_MQ below Qc XC args s mc ms free) (entryFrame m args maxL)) : vx_Met l y ws rm Pc Qc XC mc ms free := by
  refine MetFree.of_bodyS (code := cc) (maxLocals := maxL) (ret := ret) hy ?_ ?_
  · intro args s m h hn
    obtain ⟨m9, meth, c, hn9, h1, h2, h3, h4, -, h5, h6, -⟩ := Cond.codeWith_spec (atoms_spec (ws := ws) h _ (by rw [hw]; exact List.mem_cons_self))
    cases hn.symm.trans hn9
    exact ⟨meth, c, h1, h2, h3, h4, h5, h6⟩
  · intro p e s m args below meth c s₁ B hml hP _
    have hh0 : s₁.heap = s.heap := by rw [B.state]; rfl
    obtain ⟨t, a1, o, b1, b2, b3⟩ := body p e s m args below meth c s₁ B hml hP s₁ hh0 (Stand.of_body B)
    exact ⟨t, o, a1, b1, b2, b3⟩
/-! ===== END ===== -/
end
section
/-! ===== BEGIN printed: names, fields, word lists, decode rows ===== -/
def RX0 : String := "LimbRegisters$Division"
def TX0 : u_T := fun k => match k with
  | 0 => ("LimbRegisters$Division", "quotient", "LLimbRegisters$Natural;", true)
  | 1 => ("LimbRegisters$Division", "rest", "LLimbRegisters$Natural;", true)
  | _ => ("LimbRegisters$Division", "lifted", "LLimbRegisters$Natural;", true)
def tyX0 : Nat → FieldType := fun k => match k with
  | 0 => .object "LimbRegisters$Natural"
  | 1 => .object "LimbRegisters$Natural"
  | _ => .object "LimbRegisters$Natural"
theorem nmX0 : ∀ a, a < 3 → ∀ b, b < 3 → a ≠ b → (TX0 a).2.1 ≠ (TX0 b).2.1 := by decide +kernel
theorem tyX0_ok : ∀ k, k < 3 → parseFieldDescriptor (TX0 k).2.2.1 = some (tyX0 k) := by decide +kernel
def RX1 : String := "LimbRegisters$Euclid"
def TX1 : u_T := fun k => match k with
  | 0 => ("LimbRegisters$Euclid", "divisor", "LLimbRegisters$Natural;", true)
  | 1 => ("LimbRegisters$Euclid", "factor", "LLimbRegisters$Natural;", true)
  | 2 => ("LimbRegisters$Euclid", "factorBelow", "Z", false)
  | 3 => ("LimbRegisters$Euclid", "next", "LLimbRegisters$Natural;", true)
  | 4 => ("LimbRegisters$Euclid", "nextFactor", "LLimbRegisters$Natural;", true)
  | 5 => ("LimbRegisters$Euclid", "sum", "LLimbRegisters$Natural;", true)
  | _ => ("LimbRegisters$Euclid", "division", "LLimbRegisters$Division;", true)
def tyX1 : Nat → FieldType := fun k => match k with
  | 0 => .object "LimbRegisters$Natural"
  | 1 => .object "LimbRegisters$Natural"
  | 2 => .boolean
  | 3 => .object "LimbRegisters$Natural"
  | 4 => .object "LimbRegisters$Natural"
  | 5 => .object "LimbRegisters$Natural"
  | _ => .object "LimbRegisters$Division"
theorem nmX1 : ∀ a, a < 7 → ∀ b, b < 7 → a ≠ b → (TX1 a).2.1 ≠ (TX1 b).2.1 := by decide +kernel
theorem tyX1_ok : ∀ k, k < 7 → parseFieldDescriptor (TX1 k).2.2.1 = some (tyX1 k) := by decide +kernel
def RX2 : String := "LimbRegisters$Natural"
def TX2 : u_T := fun k => match k with
  | 0 => ("LimbRegisters$Natural", "limbs", "[J", true)
  | _ => ("LimbRegisters$Natural", "used", "I", false)
def tyX2 : Nat → FieldType := fun k => match k with
  | 0 => .array .long
  | _ => .int
theorem nmX2 : ∀ a, a < 2 → ∀ b, b < 2 → a ≠ b → (TX2 a).2.1 ≠ (TX2 b).2.1 := by decide +kernel
theorem tyX2_ok : ∀ k, k < 2 → parseFieldDescriptor (TX2 k).2.2.1 = some (tyX2 k) := by decide +kernel
def RX3 : String := "LimbRegisters$Residues"
def TX3 : u_T := fun k => match k with
  | 0 => ("LimbRegisters$Residues", "found", "LLimbRegisters$Natural;", true)
  | 1 => ("LimbRegisters$Residues", "base", "LLimbRegisters$Natural;", true)
  | 2 => ("LimbRegisters$Residues", "product", "LLimbRegisters$Natural;", true)
  | _ => ("LimbRegisters$Residues", "division", "LLimbRegisters$Division;", true)
def tyX3 : Nat → FieldType := fun k => match k with
  | 0 => .object "LimbRegisters$Natural"
  | 1 => .object "LimbRegisters$Natural"
  | 2 => .object "LimbRegisters$Natural"
  | _ => .object "LimbRegisters$Division"
theorem nmX3 : ∀ a, a < 4 → ∀ b, b < 4 → a ≠ b → (TX3 a).2.1 ≠ (TX3 b).2.1 := by decide +kernel
theorem tyX3_ok : ∀ k, k < 4 → parseFieldDescriptor (TX3 k).2.2.1 = some (tyX3 k) := by decide +kernel
def RX4 : String := "LimbRegisters$Roots"
def TX4 : u_T := fun k => match k with
  | 0 => ("LimbRegisters$Roots", "found", "LLimbRegisters$Natural;", true)
  | 1 => ("LimbRegisters$Roots", "trial", "LLimbRegisters$Natural;", true)
  | 2 => ("LimbRegisters$Roots", "reached", "LLimbRegisters$Natural;", true)
  | _ => ("LimbRegisters$Roots", "product", "LLimbRegisters$Natural;", true)
def tyX4 : Nat → FieldType := fun k => match k with
  | 0 => .object "LimbRegisters$Natural"
  | 1 => .object "LimbRegisters$Natural"
  | 2 => .object "LimbRegisters$Natural"
  | _ => .object "LimbRegisters$Natural"
theorem nmX4 : ∀ a, a < 4 → ∀ b, b < 4 → a ≠ b → (TX4 a).2.1 ≠ (TX4 b).2.1 := by decide +kernel
theorem tyX4_ok : ∀ k, k < 4 → parseFieldDescriptor (TX4 k).2.2.1 = some (tyX4 k) := by decide +kernel
def RX5 : String := "LimbRegisters$Text"
def TX5 : u_T := fun k => match k with
  | 0 => ("LimbRegisters$Text", "codes", "[B", true)
  | _ => ("LimbRegisters$Text", "count", "I", false)
def tyX5 : Nat → FieldType := fun k => match k with
  | 0 => .array .byte
  | _ => .int
theorem nmX5 : ∀ a, a < 2 → ∀ b, b < 2 → a ≠ b → (TX5 a).2.1 ≠ (TX5 b).2.1 := by decide +kernel
theorem tyX5_ok : ∀ k, k < 2 → parseFieldDescriptor (TX5 k).2.2.1 = some (tyX5 k) := by decide +kernel
def RX6 : String := "LimbRegisters$Whole"
def TX6 : u_T := fun k => match k with
  | 0 => ("LimbRegisters$Whole", "size", "LLimbRegisters$Natural;", true)
  | _ => ("LimbRegisters$Whole", "below", "Z", false)
def tyX6 : Nat → FieldType := fun k => match k with
  | 0 => .object "LimbRegisters$Natural"
  | _ => .boolean
theorem nmX6 : ∀ a, a < 2 → ∀ b, b < 2 → a ≠ b → (TX6 a).2.1 ≠ (TX6 b).2.1 := by decide +kernel
theorem tyX6_ok : ∀ k, k < 2 → parseFieldDescriptor (TX6 k).2.2.1 = some (tyX6 k) := by decide +kernel
def RX7 : String := "LimbRegisters"
def TX7 : u_T := fun k => match k with
  | 0 => ("LimbRegisters", "registers", "[LLimbRegisters$Whole;", true)
  | 1 => ("LimbRegisters", "answer", "LLimbRegisters$Whole;", true)
  | 2 => ("LimbRegisters", "text", "LLimbRegisters$Text;", true)
  | 3 => ("LimbRegisters", "division", "LLimbRegisters$Division;", true)
  | 4 => ("LimbRegisters", "roots", "LLimbRegisters$Roots;", true)
  | 5 => ("LimbRegisters", "residues", "LLimbRegisters$Residues;", true)
  | _ => ("LimbRegisters", "euclid", "LLimbRegisters$Euclid;", true)
def tyX7 : Nat → FieldType := fun k => match k with
  | 0 => .array (.object "LimbRegisters$Whole")
  | 1 => .object "LimbRegisters$Whole"
  | 2 => .object "LimbRegisters$Text"
  | 3 => .object "LimbRegisters$Division"
  | 4 => .object "LimbRegisters$Roots"
  | 5 => .object "LimbRegisters$Residues"
  | _ => .object "LimbRegisters$Euclid"
theorem nmX7 : ∀ a, a < 7 → ∀ b, b < 7 → a ≠ b → (TX7 a).2.1 ≠ (TX7 b).2.1 := by decide +kernel
theorem tyX7_ok : ∀ k, k < 7 → parseFieldDescriptor (TX7 k).2.2.1 = some (tyX7 k) := by decide +kernel
def RX8 : String := "LimbRegistersModel"
def TX8 : u_T := fun k => match k with
  | _ => ("", "", "", false)
def tyX8 : Nat → FieldType := fun k => match k with
  | _ => .int
theorem nmX8 : ∀ a, a < 0 → ∀ b, b < 0 → a ≠ b → (TX8 a).2.1 ≠ (TX8 b).2.1 := by decide +kernel
theorem tyX8_ok : ∀ k, k < 0 → parseFieldDescriptor (TX8 k).2.2.1 = some (tyX8 k) := by decide +kernel
def RJ6 : String := "java/lang/Integer"
def TJ6 : u_T := fun k => match k with
  | _ => ("", "", "", false)
def tyJ6 : Nat → FieldType := fun k => match k with
  | _ => .int
theorem nmJ6 : ∀ a, a < 0 → ∀ b, b < 0 → a ≠ b → (TJ6 a).2.1 ≠ (TJ6 b).2.1 := by decide +kernel
theorem tyJ6_ok : ∀ k, k < 0 → parseFieldDescriptor (TJ6 k).2.2.1 = some (tyJ6 k) := by decide +kernel
def RJ13 : String := "java/lang/Long"
def TJ13 : u_T := fun k => match k with
  | _ => ("", "", "", false)
def tyJ13 : Nat → FieldType := fun k => match k with
  | _ => .int
theorem nmJ13 : ∀ a, a < 0 → ∀ b, b < 0 → a ≠ b → (TJ13 a).2.1 ≠ (TJ13 b).2.1 := by decide +kernel
theorem tyJ13_ok : ∀ k, k < 0 → parseFieldDescriptor (TJ13 k).2.2.1 = some (tyJ13 k) := by decide +kernel
def RJ9 : String := "java/lang/Math"
def TJ9 : u_T := fun k => match k with
  | _ => ("", "", "", false)
def tyJ9 : Nat → FieldType := fun k => match k with
  | _ => .int
theorem nmJ9 : ∀ a, a < 0 → ∀ b, b < 0 → a ≠ b → (TJ9 a).2.1 ≠ (TJ9 b).2.1 := by decide +kernel
theorem tyJ9_ok : ∀ k, k < 0 → parseFieldDescriptor (TJ9 k).2.2.1 = some (tyJ9 k) := by decide +kernel
def RJ0 : String := "java/lang/String"
def TJ0 : u_T := fun k => match k with
  | _ => ("", "", "", false)
def tyJ0 : Nat → FieldType := fun k => match k with
  | _ => .int
theorem nmJ0 : ∀ a, a < 0 → ∀ b, b < 0 → a ≠ b → (TJ0 a).2.1 ≠ (TJ0 b).2.1 := by decide +kernel
theorem tyJ0_ok : ∀ k, k < 0 → parseFieldDescriptor (TJ0 k).2.2.1 = some (tyJ0 k) := by decide +kernel
def RL : String := "LimbRegistersLaw"
end
section
/-! numbers in digits: sums of digits times powers of a base -/
def lm_ev (B : Int) (f : Nat → Int) : Nat → Int
  | 0 => 0
  | n + 1 => lm_ev B f n + f n * B ^ n
theorem lm_ev0 (B : Int) (f : Nat → Int) : lm_ev B f 0 = 0 := rfl
theorem lm_evs (B : Int) (f : Nat → Int) (n : Nat) : lm_ev B f (n + 1) = lm_ev B f n + f n * B ^ n := rfl
theorem lm_congr {B : Int} {f g : Nat → Int} : ∀ {n : Nat}, (∀ j, j < n → f j = g j) → lm_ev B f n = lm_ev B g n
  | 0, _ => rfl
  | n + 1, h => by
    rw [lm_evs, lm_evs, lm_congr (fun j hj => h j (Nat.lt_succ_of_lt hj)), h n (Nat.lt_succ_self n)]
theorem lm_powpos {B : Int} (hB : 0 < B) (n : Nat) : 0 < B ^ n := Int.pow_pos hB
theorem lm_nonneg {B : Int} {f : Nat → Int} (hB : 0 < B) : ∀ {n : Nat}, (∀ j, j < n → 0 ≤ f j) → 0 ≤ lm_ev B f n
  | 0, _ => Int.le_refl 0
  | n + 1, h => by
    have h1 := lm_nonneg hB (n := n) (fun j hj => h j (Nat.lt_succ_of_lt hj))
    have h2 := Int.mul_nonneg (h n (Nat.lt_succ_self n)) (Int.le_of_lt (lm_powpos hB n))
    rw [lm_evs]; omega
theorem lm_lt {B : Int} {f : Nat → Int} (hB : 0 < B) : ∀ {n : Nat}, (∀ j, j < n → f j < B) → lm_ev B f n < B ^ n
  | 0, _ => by rw [lm_ev0]; exact Int.pow_pos hB
  | n + 1, h => by
    have h1 := lm_lt hB (n := n) (fun j hj => h j (Nat.lt_succ_of_lt hj))
    have h2 : f n + 1 ≤ B := h n (Nat.lt_succ_self n)
    have h3 := Int.mul_le_mul_of_nonneg_right h2 (Int.le_of_lt (lm_powpos hB n))
    rw [lm_evs, Int.pow_succ]
    grind
theorem lm_top {B : Int} {f : Nat → Int} (hB : 0 < B) {n : Nat} (h : ∀ j, j < n → 0 ≤ f j) (h1 : 1 ≤ f n) : B ^ n ≤ lm_ev B f (n + 1) := by
  have h2 := lm_nonneg hB h
  have h3 := Int.mul_le_mul_of_nonneg_right h1 (Int.le_of_lt (lm_powpos hB n))
  rw [lm_evs]; omega
theorem lm_tail {B : Int} {f : Nat → Int} {k : Nat} : ∀ {n : Nat}, k ≤ n → (∀ j, k ≤ j → j < n → f j = 0) → lm_ev B f n = lm_ev B f k
  | 0, h, _ => by rw [Nat.le_zero.mp h]
  | n + 1, h, h0 => by
    by_cases e : k = n + 1
    · rw [e]
    · have hk : k ≤ n := by omega
      rw [lm_evs, lm_tail hk (fun j a b => h0 j a (by omega)), h0 n hk (by omega)]; simp
theorem lm_split {B : Int} (f : Nat → Int) (m : Nat) : ∀ n : Nat, lm_ev B f (m + n) = lm_ev B f m + B ^ m * lm_ev B (fun j => f (m + j)) n
  | 0 => by simp [lm_ev0]
  | n + 1 => by
    rw [← Nat.add_assoc, lm_evs, lm_evs, lm_split f m n, Int.pow_add]
    grind
/-- digits of one number are the digits of any other that it equals -/
theorem lm_step {B : Int} (hB : 0 < B) {f : Nat → Int} {n : Nat} {c t S : Int} (h : lm_ev B f n + c * B ^ n = S) (x : Int) (ht : t = c + x) (hf : f n = t % B) : lm_ev B f (n + 1) + t / B * B ^ (n + 1) = S + x * B ^ n := by
  have e := Int.emod_add_mul_ediv t B
  rw [lm_evs, hf, Int.pow_succ]
  grind
theorem lm_mod {B : Int} (hB : 0 < B) (t : Int) : 0 ≤ t % B ∧ t % B < B := ⟨Int.emod_nonneg _ (by omega), Int.emod_lt_of_pos _ hB⟩
/-- the higher digits alike, the one at n greater: the number is greater -/
theorem lm_ltN {B : Int} (hB : 0 < B) {f g : Nat → Int} {n : Nat} (hf : ∀ j, j < n → f j < B) (hg : ∀ j, j < n → 0 ≤ g j) (h : f n < g n) : lm_ev B f (n + 1) < lm_ev B g (n + 1) := by
  have h1 := lm_lt hB hf
  have h2 := lm_nonneg hB hg
  have h3 : f n + 1 ≤ g n := h
  have h4 := Int.mul_le_mul_of_nonneg_right h3 (Int.le_of_lt (lm_powpos hB n))
  rw [lm_evs, lm_evs]
  grind
theorem lm_ltUp {B : Int} {f g : Nat → Int} {k : Nat} : ∀ {n : Nat}, k ≤ n → (∀ j, k ≤ j → j < n → f j = g j) → lm_ev B f k < lm_ev B g k → lm_ev B f n < lm_ev B g n
  | 0, h, _, h0 => by rw [Nat.le_zero.mp h] at h0; exact h0
  | n + 1, h, he, h0 => by
    by_cases e : k = n + 1
    · rw [← e]; exact h0
    · have hk : k ≤ n := by omega
      have := lm_ltUp hk (fun j a b => he j a (by omega)) h0
      rw [lm_evs, lm_evs, he n hk (by omega)]; omega
/-! longs and ints as whole numbers -/
theorem lj_add {x y : Int64} (h1 : -9223372036854775808 ≤ x.toInt + y.toInt) (h2 : x.toInt + y.toInt < 9223372036854775808) : (x + y).toInt = x.toInt + y.toInt := by
  rw [Int64.toInt_add]; exact Int.bmod_eq_of_le (by omega) (by omega)
theorem lj_sub {x y : Int64} (h1 : -9223372036854775808 ≤ x.toInt - y.toInt) (h2 : x.toInt - y.toInt < 9223372036854775808) : (x - y).toInt = x.toInt - y.toInt := by
  rw [Int64.toInt_sub]; exact Int.bmod_eq_of_le (by omega) (by omega)
theorem lj_mul {x y : Int64} (h1 : -9223372036854775808 ≤ x.toInt * y.toInt) (h2 : x.toInt * y.toInt < 9223372036854775808) : (x * y).toInt = x.toInt * y.toInt := by
  rw [Int64.toInt_mul]; exact Int.bmod_eq_of_le (by omega) (by omega)
theorem lj_shr (x : Int64) {D : Int64} (k : Nat) (hD : (D.toBitVec.smod 64).toNat = k) : (x >>> D).toInt = x.toInt / 2 ^ k := by
  have e : (x >>> D).toInt = x.toInt >>> k := by
    rw [← hD]
    exact BitVec.toInt_sshiftRight ..
  rw [e, Int.shiftRight_eq_div_pow]; rfl
theorem lj_shr28 (x : Int64) : (x >>> ((28 : Int32).toInt64 &&& 63)).toInt = x.toInt / 268435456 := by
  rw [lj_shr x 28 (by decide +kernel)]; rfl
theorem lj_shr20 (x : Int64) : (x >>> ((20 : Int32).toInt64 &&& 63)).toInt = x.toInt / 1048576 := by
  rw [lj_shr x 20 (by decide +kernel)]; rfl
theorem lj_toInt (x : Int64) : x.toInt = if x.toBitVec.toNat < 9223372036854775808 then (x.toBitVec.toNat : Int) else (x.toBitVec.toNat : Int) - 18446744073709551616 := by
  show x.toBitVec.toInt = _
  rw [BitVec.toInt_eq_toNat_cond]
  split <;> split <;> omega
theorem lj_andN (x : Int64) {m : Int64} (k : Nat) (hm : m.toBitVec.toNat = 2 ^ k - 1) : (x &&& m).toBitVec.toNat = x.toBitVec.toNat % 2 ^ k := by
  rw [Int64.toBitVec_and, BitVec.toNat_and, hm, Nat.and_two_pow_sub_one_eq_mod]
theorem lj_and28 (x : Int64) : (x &&& 268435455).toInt = x.toInt % 268435456 := by
  have e := lj_andN x (m := 268435455) 28 (by decide +kernel)
  rw [lj_toInt (x &&& 268435455), e, lj_toInt x]
  split <;> split <;> omega
theorem lj_and20 (x : Int64) : (x &&& 1048575).toInt = x.toInt % 1048576 := by
  have e := lj_andN x (m := 1048575) 20 (by decide +kernel)
  rw [lj_toInt (x &&& 1048575), e, lj_toInt x]
  split <;> split <;> omega
theorem lj_inj {x y : Int64} (h : x.toInt = y.toInt) : x = y := Int64.toInt_inj.mp h
theorem lj_0 : (0 : Int64).toInt = 0 := by decide +kernel
theorem lj_1 : (1 : Int64).toInt = 1 := by decide +kernel
theorem lj_lN {n : Nat} (h : n < 9223372036854775808) : (lN n).toInt = (n : Int) := pk_lT (by omega)
/-! a number's digits by a base, and how many there are -/
def lm_len (B v : Nat) : Nat → Nat
  | 0 => 0
  | n + 1 => if v / B ^ n = 0 then lm_len B v n else n + 1
theorem lm_len_le (B v : Nat) : ∀ n, lm_len B v n ≤ n
  | 0 => Nat.le_refl 0
  | n + 1 => by
    have := lm_len_le B v n
    unfold lm_len; split <;> omega
theorem lm_len_lt {B v : Nat} (hB : 0 < B) : ∀ {n}, v < B ^ n → v < B ^ lm_len B v n
  | 0, h => h
  | n + 1, h => by
    unfold lm_len; split
    · rename_i h0
      refine lm_len_lt hB ?_
      rcases Nat.div_eq_zero_iff.mp h0 with h1 | h1
      · exact absurd h1 (by have := Nat.pow_pos (n := n) hB; omega)
      · exact h1
    · exact h
theorem lm_len_ge {B v : Nat} : ∀ {n}, 0 < lm_len B v n → B ^ (lm_len B v n - 1) ≤ v
  | 0, h => absurd h (Nat.lt_irrefl 0)
  | n + 1, h => by
    unfold lm_len at h ⊢; split at h
    · rename_i h0
      rw [if_pos h0]
      exact lm_len_ge h
    · rename_i h0
      rw [if_neg h0]
      show B ^ n ≤ v
      apply Nat.le_of_not_lt
      intro h2
      exact h0 (Nat.div_eq_of_lt h2)
theorem lm_len_eq {B v k : Nat} (hB : 1 < B) (h1 : v < B ^ k) (h2 : 0 < k → B ^ (k - 1) ≤ v) : ∀ {n}, k ≤ n → lm_len B v n = k
  | 0, h => by unfold lm_len; omega
  | n + 1, h => by
    unfold lm_len
    by_cases e : k = n + 1
    · have h3 : B ^ n ≤ v := by have := h2 (by omega); rw [e] at this; exact this
      have h4 : v / B ^ n ≠ 0 := by
        have := Nat.div_pos h3 (Nat.pow_pos (by omega))
        omega
      rw [if_neg h4]; exact e.symm
    · have h3 : v < B ^ n := Nat.lt_of_lt_of_le h1 (Nat.pow_le_pow_right (by omega) (by omega))
      rw [if_pos (Nat.div_eq_of_lt h3)]
      exact lm_len_eq hB h1 h2 (by omega)
theorem lm_digit {B : Int} (hB : 0 < B) {f : Nat → Int} {n : Nat} {v : Int} (h : ∀ j, j < n → 0 ≤ f j ∧ f j < B) (hv : lm_ev B f n = v) {j : Nat} (hj : j < n) : f j = v / B ^ j % B := by
  obtain ⟨r, hr⟩ : ∃ r, n = j + (1 + r) := ⟨n - j - 1, by omega⟩
  have e1 := lm_split (B := B) f j (1 + r)
  have e2 := lm_split (B := B) (fun i => f (j + i)) 1 r
  have e3 : lm_ev B (fun i => f (j + i)) 1 = f j := by simp [lm_ev]
  rw [e3, Int.pow_one] at e2
  rw [← hr, hv, e2] at e1
  have n1 := lm_nonneg hB (f := f) (n := j) (fun i hi => (h i (by omega)).1)
  have n2 := lm_lt hB (f := f) (n := j) (fun i hi => (h i (by omega)).2)
  have hp := lm_powpos hB j
  rw [e1, Int.add_mul_ediv_left _ _ (by omega), Int.ediv_eq_zero_of_lt n1 n2, Int.zero_add, Int.add_mul_emod_self_left, Int.emod_eq_of_lt (h j hj).1 (h j hj).2]
/-- the canonical digits give the number again -/
theorem lm_evd {B : Nat} (hB : 0 < B) (v : Nat) : ∀ n, lm_ev (B : Int) (fun j => ((v / B ^ j % B : Nat) : Int)) n = ((v % B ^ n : Nat) : Int)
  | 0 => by simp [lm_ev, Nat.mod_one]
  | n + 1 => by
    rw [lm_evs, lm_evd hB v n, Nat.pow_succ, Nat.mod_mul]
    simp only [Int.natCast_add, Int.natCast_mul, Int.natCast_pow]
    grind
end
section
/-! rows of limbs of 28 bits -/
def nd (f : Nat → Int64) : Nat → Int := fun j => (f j).toInt
abbrev b28 : Int := 268435456
def vB : Nat := 268435456
def vLim : Nat := vB ^ 75
def fD (v : Nat) : Nat → Int64 := fun j => lN (v / vB ^ j % vB)
def kD (v : Nat) : Nat := lm_len vB v 75
def uD (v : Nat) : Int32 := nI (kD v)
theorem b28_pos : (0 : Int) < b28 := by decide
theorem vB_pos : 0 < vB := by decide
theorem vB_c : ((vB : Nat) : Int) = b28 := rfl
theorem nd_upd {f : Nat → Int64} {i : Nat} {x : Int64} : nd (vp_updL f i x) i = x.toInt := by unfold nd; rw [pk_uLs]
theorem nd_updN {f : Nat → Int64} {i j : Nat} {x : Int64} (h : j ≠ i) : nd (vp_updL f i x) j = nd f j := by unfold nd; rw [pk_uLn h]
theorem nd_evU {f : Nat → Int64} {i n : Nat} {x : Int64} (h : n ≤ i) : lm_ev b28 (nd (vp_updL f i x)) n = lm_ev b28 (nd f) n := lm_congr (fun j hj => nd_updN (by omega))
theorem fD_toInt (v j : Nat) : (fD v j).toInt = ((v / vB ^ j % vB : Nat) : Int) := by
  unfold fD
  refine lj_lN (Nat.lt_trans (Nat.mod_lt _ vB_pos) (by decide))
theorem fD_nd (v : Nat) : nd (fD v) = fun j => ((v / vB ^ j % vB : Nat) : Int) := funext fun j => fD_toInt v j
theorem fD_in (v j : Nat) : 0 ≤ nd (fD v) j ∧ nd (fD v) j < b28 := by
  rw [fD_nd]
  have := Nat.mod_lt (v / vB ^ j) vB_pos
  have e : vB = 268435456 := rfl
  constructor
  · exact Int.natCast_nonneg _
  · show ((v / vB ^ j % vB : Nat) : Int) < 268435456
    omega
theorem fD_ev (v n : Nat) : lm_ev b28 (nd (fD v)) n = ((v % vB ^ n : Nat) : Int) := by
  rw [fD_nd, ← vB_c]; exact lm_evd vB_pos v n
theorem kD_le (v : Nat) : kD v ≤ 75 := lm_len_le _ _ _
theorem kD_lt {v : Nat} (h : v < vLim) : v < vB ^ kD v := lm_len_lt vB_pos h
theorem kD_ge {v : Nat} (h : 0 < kD v) : vB ^ (kD v - 1) ≤ v := lm_len_ge h
theorem kD_eq {v k : Nat} (h1 : v < vB ^ k) (h2 : 0 < k → vB ^ (k - 1) ≤ v) (h : k ≤ 75) : kD v = k := lm_len_eq (by decide) h1 h2 h
theorem vB_le {a b : Nat} (h : a ≤ b) : vB ^ a ≤ vB ^ b := Nat.pow_le_pow_right vB_pos h
theorem kD_mono {v k : Nat} (hv : v < vB ^ k) : kD v ≤ k := by
  apply Nat.le_of_not_lt
  intro h
  have h1 := kD_ge (v := v) (by omega)
  have h2 := vB_le (show k ≤ kD v - 1 by omega)
  omega
theorem fD_ev_k {v n : Nat} (h : v < vLim) (hn : kD v ≤ n) : lm_ev b28 (nd (fD v)) n = (v : Int) := by
  rw [fD_ev, Nat.mod_eq_of_lt (Nat.lt_of_lt_of_le (kD_lt h) (vB_le hn))]
theorem fD_zero {v j : Nat} (h : v < vLim) (hj : kD v ≤ j) : fD v j = 0 := by
  unfold fD
  rw [Nat.div_eq_of_lt (Nat.lt_of_lt_of_le (kD_lt h) (vB_le hj))]
  decide +kernel
/-- a row that has the digits of v has its canonical limbs -/
theorem fD_uniq {f : Nat → Int64} {n v : Nat} (hd : ∀ j, j < n → 0 ≤ nd f j ∧ nd f j < b28) (he : lm_ev b28 (nd f) n = (v : Int)) {j : Nat} (hj : j < n) : f j = fD v j := by
  apply lj_inj
  rw [fD_toInt]
  have := lm_digit b28_pos hd he hj
  show nd f j = _
  rw [this, ← vB_c]
  simp only [Int.natCast_ediv, Int.natCast_emod, Int.natCast_pow]
theorem fD_lt {f : Nat → Int64} {n v : Nat} (hd : ∀ j, j < n → 0 ≤ nd f j ∧ nd f j < b28) (he : lm_ev b28 (nd f) n = (v : Int)) : v < vB ^ n := by
  have := lm_lt b28_pos (f := nd f) (n := n) (fun j hj => (hd j hj).2)
  rw [he, ← vB_c, ← Int.natCast_pow] at this
  exact Int.ofNat_lt.mp this
theorem nd_0 {f : Nat → Int64} {j : Nat} (h : f j = 0) : nd f j = 0 := by unfold nd; rw [h]; exact lj_0
/-- a carry goes one limb on -/
theorem nd_carry {f : Nat → Int64} {i : Nat} {t : Int64} {c x S : Int} (ht : t.toInt = c + x) (h : lm_ev b28 (nd f) i + c * b28 ^ i = S) :
    lm_ev b28 (nd (vp_updL f i (t &&& 268435455))) (i + 1) + (t >>> ((28 : Int32).toInt64 &&& 63)).toInt * b28 ^ (i + 1) = S + x * b28 ^ i := by
  rw [lj_shr28]
  refine lm_step b28_pos ?_ x ht ?_
  · rw [nd_evU (Nat.le_refl i)]; exact h
  · rw [nd_upd, lj_and28]
theorem nd_and (t : Int64) : 0 ≤ (t &&& 268435455).toInt ∧ (t &&& 268435455).toInt < b28 := by
  rw [lj_and28]; exact lm_mod b28_pos _
/-! the guess of a limb -/
theorem kn_a {g V2 P vl U3 ul : Int} (hg : 1 ≤ g) (hgV : g - 1 ≤ V2) (hP : 0 < P) (hvl : vl < P) (hul : 0 ≤ ul) (ht : g * V2 ≤ U3) : (g - 1) * (V2 * P + vl) ≤ U3 * P + ul := by
  have h1 : (g - 1) * vl ≤ (g - 1) * P := Int.mul_le_mul_of_nonneg_left (by omega) (by omega)
  have h2 : (g * V2) * P ≤ U3 * P := Int.mul_le_mul_of_nonneg_right ht (by omega)
  have h3 : (g - 1) * P ≤ V2 * P := Int.mul_le_mul_of_nonneg_right hgV (by omega)
  have e : (g - 1) * (V2 * P + vl) = (g * V2) * P - V2 * P + (g - 1) * vl := by grind
  omega
theorem kn_b {g V2 P vl U3 ul : Int} (hg : 0 ≤ g) (hP : 0 < P) (hvl : 0 ≤ vl) (hul : ul < P) (ht : U3 < g * V2) : U3 * P + ul < g * (V2 * P + vl) := by
  have h1 : 0 ≤ g * vl := Int.mul_nonneg hg hvl
  have h2 : (U3 + 1) * P ≤ (g * V2) * P := Int.mul_le_mul_of_nonneg_right (by omega) (by omega)
  have e : g * (V2 * P + vl) = (g * V2) * P + g * vl := by grind
  have e2 : (U3 + 1) * P = U3 * P + P := by grind
  omega
theorem kn_c {h v1 P vl ul : Int} (hh : 0 ≤ h) (hv : 0 < v1) (hP : 0 < P) (hvl : 0 ≤ vl) (hul : ul < P) : h * P + ul < (h / v1 + 1) * (v1 * P + vl) := by
  have h0 : 0 ≤ h / v1 := Int.ediv_nonneg hh (by omega)
  have h1 : h < (h / v1 + 1) * v1 := Int.lt_ediv_add_one_mul_self h hv
  have h2 : (h + 1) * P ≤ ((h / v1 + 1) * v1) * P := Int.mul_le_mul_of_nonneg_right (by omega) (by omega)
  have h3 : 0 ≤ (h / v1 + 1) * vl := Int.mul_nonneg (by omega) hvl
  have e : (h / v1 + 1) * (v1 * P + vl) = ((h / v1 + 1) * v1) * P + (h / v1 + 1) * vl := by grind
  have e2 : (h + 1) * P = h * P + P := by grind
  omega
/-! one digit changed; products of digits -/
theorem lm_upd {B : Int} {f g : Nat → Int} {k : Nat} (hg : ∀ j, j ≠ k → g j = f j) : ∀ {n : Nat}, k < n → lm_ev B g n = lm_ev B f n + (g k - f k) * B ^ k
  | 0, h => absurd h (Nat.not_lt_zero k)
  | n + 1, h => by
    by_cases e : k = n
    · subst e
      rw [lm_evs, lm_evs, lm_congr (f := g) (g := f) (fun j hj => hg j (by omega))]
      grind
    · rw [lm_evs, lm_evs, lm_upd hg (n := n) (by omega), hg n (by omega)]
      grind
theorem nd_upd_ev {f : Nat → Int64} {k n : Nat} {x : Int64} (h : k < n) : lm_ev b28 (nd (vp_updL f k x)) n = lm_ev b28 (nd f) n + (x.toInt - nd f k) * b28 ^ k := by
  have := lm_upd (B := b28) (f := nd f) (g := nd (vp_updL f k x)) (k := k) (fun j hj => nd_updN hj) h
  rw [nd_upd] at this
  exact this
theorem lm_mulbd {a b M N : Int} (ha : 0 ≤ a) (hb : 0 ≤ b) (ha2 : a ≤ M) (hb2 : b ≤ N) : 0 ≤ a * b ∧ a * b ≤ M * N :=
  ⟨Int.mul_nonneg ha hb, Int.mul_le_mul ha2 hb2 hb (by omega)⟩
/-! what one turn of a loop does to a row of limbs -/
theorem pu_sum {f : Nat → Int64} {i : Nat} {c x y t : Int64} {S : Int} (hc : 0 ≤ c.toInt ∧ c.toInt ≤ 1) (hx : 0 ≤ x.toInt ∧ x.toInt < 268435456) (hy : 0 ≤ y.toInt ∧ y.toInt < 268435456) (ht : t = c + (x + y)) (h : lm_ev b28 (nd f) i + c.toInt * b28 ^ i = S) :
    (0 ≤ (t >>> ((28 : Int32).toInt64 &&& 63)).toInt ∧ (t >>> ((28 : Int32).toInt64 &&& 63)).toInt ≤ 1) ∧ lm_ev b28 (nd (vp_updL f i (t &&& 268435455))) (i + 1) + (t >>> ((28 : Int32).toInt64 &&& 63)).toInt * b28 ^ (i + 1) = S + (x.toInt + y.toInt) * b28 ^ i := by
  have e1 : (x + y).toInt = x.toInt + y.toInt := lj_add (by omega) (by omega)
  have e2 : t.toInt = c.toInt + (x.toInt + y.toInt) := by rw [ht, lj_add (by omega) (by omega), e1]
  refine ⟨?_, nd_carry e2 h⟩
  rw [lj_shr28, e2]; omega
theorem pu_dif {f : Nat → Int64} {i : Nat} {c x y t : Int64} {S : Int} (hc : -1 ≤ c.toInt ∧ c.toInt ≤ 0) (hx : 0 ≤ x.toInt ∧ x.toInt < 268435456) (hy : 0 ≤ y.toInt ∧ y.toInt < 268435456) (ht : t = c + (x - y)) (h : lm_ev b28 (nd f) i + c.toInt * b28 ^ i = S) :
    (-1 ≤ (t >>> ((28 : Int32).toInt64 &&& 63)).toInt ∧ (t >>> ((28 : Int32).toInt64 &&& 63)).toInt ≤ 0) ∧ lm_ev b28 (nd (vp_updL f i (t &&& 268435455))) (i + 1) + (t >>> ((28 : Int32).toInt64 &&& 63)).toInt * b28 ^ (i + 1) = S + (x.toInt - y.toInt) * b28 ^ i := by
  have e1 : (x - y).toInt = x.toInt - y.toInt := lj_sub (by omega) (by omega)
  have e2 : t.toInt = c.toInt + (x.toInt - y.toInt) := by rw [ht, lj_add (by omega) (by omega), e1]
  refine ⟨?_, nd_carry e2 h⟩
  rw [lj_shr28, e2]; omega
/-- the row so far has digits -/
theorem pu_in {f : Nat → Int64} {i : Nat} {t : Int64} (h : ∀ j, j < i → 0 ≤ nd f j ∧ nd f j < b28) : ∀ j, j < i + 1 → 0 ≤ nd (vp_updL f i (t &&& 268435455)) j ∧ nd (vp_updL f i (t &&& 268435455)) j < b28 := by
  intro j hj
  by_cases e : j = i
  · rw [e, nd_upd]; exact nd_and t
  · rw [nd_updN e]; exact h j (by omega)
theorem lm_add2 {B S : Int} {f g : Nat → Int} {i : Nat} (h : S = lm_ev B f i + lm_ev B g i) : S + (f i + g i) * B ^ i = lm_ev B f (i + 1) + lm_ev B g (i + 1) := by
  rw [lm_evs, lm_evs, h]; grind
theorem lm_sub2 {B S : Int} {f g : Nat → Int} {i : Nat} (h : S = lm_ev B f i - lm_ev B g i) : S + (f i - g i) * B ^ i = lm_ev B f (i + 1) - lm_ev B g (i + 1) := by
  rw [lm_evs, lm_evs, h]; grind
end
section
/-! rows of my own over those of the kit -/
section RW
variable {p : Program} {l : Launch} {e : Env} {R : Room} {s : State} {m : MethodId} {args : Array Value} {below : List Frame} {meth : Method} {c : Code} {H : Heap} {locs : List Loc} {cells slots : Nat} {Q : State → Prop}
variable {cc : ByteArray} {pc : Nat} {ls : Array Slot} {rest : List Value}

theorem sw_i {x y : Int32} (h : x = y) (k : W p l e R s m args below meth c H locs cells slots Q (F0 m pc ls (.int y :: rest))) : W p l e R s m args below meth c H locs cells slots Q (F0 m pc ls (.int x :: rest)) := h ▸ k
theorem sw_l {x y : Int64} (h : x = y) (k : W p l e R s m args below meth c H locs cells slots Q (F0 m pc ls (.long y :: rest))) : W p l e R s m args below meth c H locs cells slots Q (F0 m pc ls (.long x :: rest)) := h ▸ k
theorem sw_pc {q : Nat} (h : pc = q) (k : W p l e R s m args below meth c H locs cells slots Q (F0 m q ls rest)) : W p l e R s m args below meth c H locs cells slots Q (F0 m pc ls rest) := h ▸ k
theorem n_iadd (hexec : p.tables.exec = Jvm.exec) (hb : c.code = cc) {a b : Nat} (hdg : decode cc pc = .ok (.iadd, 1)) (k : W p l e R s m args below meth c H locs cells slots Q (F0 m (pc + 1) ls (.int (nI (a + b)) :: rest))) : W p l e R s m args below meth c H locs cells slots Q (F0 m pc ls (.int (nI b) :: .int (nI a) :: rest)) := lv_iadd hexec hb hdg (sw_i (nI_add a b) k)
theorem n_isub (hexec : p.tables.exec = Jvm.exec) (hb : c.code = cc) {a b : Nat} (hdg : decode cc pc = .ok (.isub, 1)) (h : b ≤ a) (k : W p l e R s m args below meth c H locs cells slots Q (F0 m (pc + 1) ls (.int (nI (a - b)) :: rest))) : W p l e R s m args below meth c H locs cells slots Q (F0 m pc ls (.int (nI b) :: .int (nI a) :: rest)) := lv_isub hexec hb hdg (sw_i (pk_sub h) k)
theorem n_imul (hexec : p.tables.exec = Jvm.exec) (hb : c.code = cc) {a b : Nat} (hdg : decode cc pc = .ok (.imul, 1)) (k : W p l e R s m args below meth c H locs cells slots Q (F0 m (pc + 1) ls (.int (nI (a * b)) :: rest))) : W p l e R s m args below meth c H locs cells slots Q (F0 m pc ls (.int (nI b) :: .int (nI a) :: rest)) := lv_imul hexec hb hdg (sw_i (pk_mul a b) k)
theorem n_idiv (hexec : p.tables.exec = Jvm.exec) (hb : c.code = cc) {a b : Nat} (hdg : decode cc pc = .ok (.idiv, 1)) (ha : a < 2147483648) (h0 : 0 < b) (hb2 : b < 2147483648) (k : W p l e R s m args below meth c H locs cells slots Q (F0 m (pc + 1) ls (.int (nI (a / b)) :: rest))) : W p l e R s m args below meth c H locs cells slots Q (F0 m pc ls (.int (nI b) :: .int (nI a) :: rest)) := lv_idiv hexec hb hdg (nI_ne0 h0 hb2) (sw_i (pk_div ha h0 hb2) k)
theorem n_irem (hexec : p.tables.exec = Jvm.exec) (hb : c.code = cc) {a b : Nat} (hdg : decode cc pc = .ok (.irem, 1)) (ha : a < 2147483648) (h0 : 0 < b) (hb2 : b < 2147483648) (k : W p l e R s m args below meth c H locs cells slots Q (F0 m (pc + 1) ls (.int (nI (a % b)) :: rest))) : W p l e R s m args below meth c H locs cells slots Q (F0 m pc ls (.int (nI b) :: .int (nI a) :: rest)) := lv_irem hexec hb hdg (nI_ne0 h0 hb2) (sw_i (pk_rem ha h0 hb2) k)
theorem nI_ltz {a : Nat} (h : a < 2147483648) : ¬ nI a < 0 := nI_pos h
theorem nI_eqz {a : Nat} (h : a < 2147483648) : nI a = 0 ↔ a = 0 := by rw [← nI_0]; exact nI_eq h (by decide)
theorem nI_lez {a : Nat} (h : a < 2147483648) : nI a ≤ 0 ↔ a = 0 := by rw [← nI_0, nI_leI h (by decide)]; omega
theorem nI_gtz {a : Nat} (h : a < 2147483648) : 0 < nI a ↔ 0 < a := by rw [← nI_0, nI_ltI (by decide) h]
theorem n_icmp_eq (hexec : p.tables.exec = Jvm.exec) (hb : c.code = cc) {a b : Nat} {off : Int} {tgt : Nat} (hdg : decode cc pc = .ok (.if_icmp .eq off, 3)) (ht : (pc : Int) + off = (tgt : Int)) (ha : a < 2147483648) (hb2 : b < 2147483648) (kt : a = b → W p l e R s m args below meth c H locs cells slots Q (F0 m tgt ls rest)) (kf : a ≠ b → W p l e R s m args below meth c H locs cells slots Q (F0 m (pc + 3) ls rest)) : W p l e R s m args below meth c H locs cells slots Q (F0 m pc ls (.int (nI b) :: .int (nI a) :: rest)) := lv_icmp_eq hexec hb hdg ht (fun h => kt ((nI_eq ha hb2).mp h)) (fun h => kf (by have q := mt (nI_eq ha hb2).mpr h; omega))
theorem n_icmp_ne (hexec : p.tables.exec = Jvm.exec) (hb : c.code = cc) {a b : Nat} {off : Int} {tgt : Nat} (hdg : decode cc pc = .ok (.if_icmp .ne off, 3)) (ht : (pc : Int) + off = (tgt : Int)) (ha : a < 2147483648) (hb2 : b < 2147483648) (kt : a ≠ b → W p l e R s m args below meth c H locs cells slots Q (F0 m tgt ls rest)) (kf : a = b → W p l e R s m args below meth c H locs cells slots Q (F0 m (pc + 3) ls rest)) : W p l e R s m args below meth c H locs cells slots Q (F0 m pc ls (.int (nI b) :: .int (nI a) :: rest)) := lv_icmp_ne hexec hb hdg ht (fun h => kt (fun q => h (by rw [q]))) (fun h => kf ((nI_eq ha hb2).mp (by first | exact h | exact Classical.not_not.mp h)))
theorem n_icmp_lt (hexec : p.tables.exec = Jvm.exec) (hb : c.code = cc) {a b : Nat} {off : Int} {tgt : Nat} (hdg : decode cc pc = .ok (.if_icmp .lt off, 3)) (ht : (pc : Int) + off = (tgt : Int)) (ha : a < 2147483648) (hb2 : b < 2147483648) (kt : a < b → W p l e R s m args below meth c H locs cells slots Q (F0 m tgt ls rest)) (kf : b ≤ a → W p l e R s m args below meth c H locs cells slots Q (F0 m (pc + 3) ls rest)) : W p l e R s m args below meth c H locs cells slots Q (F0 m pc ls (.int (nI b) :: .int (nI a) :: rest)) := lv_icmp_lt hexec hb hdg ht (fun h => kt ((nI_ltI ha hb2).mp h)) (fun h => kf (by have q := mt (nI_ltI ha hb2).mpr h; omega))
theorem n_icmp_ge (hexec : p.tables.exec = Jvm.exec) (hb : c.code = cc) {a b : Nat} {off : Int} {tgt : Nat} (hdg : decode cc pc = .ok (.if_icmp .ge off, 3)) (ht : (pc : Int) + off = (tgt : Int)) (ha : a < 2147483648) (hb2 : b < 2147483648) (kt : b ≤ a → W p l e R s m args below meth c H locs cells slots Q (F0 m tgt ls rest)) (kf : a < b → W p l e R s m args below meth c H locs cells slots Q (F0 m (pc + 3) ls rest)) : W p l e R s m args below meth c H locs cells slots Q (F0 m pc ls (.int (nI b) :: .int (nI a) :: rest)) := lv_icmp_ge hexec hb hdg ht (fun h => kt ((nI_leI hb2 ha).mp h)) (fun h => kf (by have q := mt (nI_leI hb2 ha).mpr h; omega))
theorem n_icmp_gt (hexec : p.tables.exec = Jvm.exec) (hb : c.code = cc) {a b : Nat} {off : Int} {tgt : Nat} (hdg : decode cc pc = .ok (.if_icmp .gt off, 3)) (ht : (pc : Int) + off = (tgt : Int)) (ha : a < 2147483648) (hb2 : b < 2147483648) (kt : b < a → W p l e R s m args below meth c H locs cells slots Q (F0 m tgt ls rest)) (kf : a ≤ b → W p l e R s m args below meth c H locs cells slots Q (F0 m (pc + 3) ls rest)) : W p l e R s m args below meth c H locs cells slots Q (F0 m pc ls (.int (nI b) :: .int (nI a) :: rest)) := lv_icmp_gt hexec hb hdg ht (fun h => kt ((nI_ltI hb2 ha).mp h)) (fun h => kf (by have q := mt (nI_ltI hb2 ha).mpr h; omega))
theorem n_icmp_le (hexec : p.tables.exec = Jvm.exec) (hb : c.code = cc) {a b : Nat} {off : Int} {tgt : Nat} (hdg : decode cc pc = .ok (.if_icmp .le off, 3)) (ht : (pc : Int) + off = (tgt : Int)) (ha : a < 2147483648) (hb2 : b < 2147483648) (kt : a ≤ b → W p l e R s m args below meth c H locs cells slots Q (F0 m tgt ls rest)) (kf : b < a → W p l e R s m args below meth c H locs cells slots Q (F0 m (pc + 3) ls rest)) : W p l e R s m args below meth c H locs cells slots Q (F0 m pc ls (.int (nI b) :: .int (nI a) :: rest)) := lv_icmp_le hexec hb hdg ht (fun h => kt ((nI_leI ha hb2).mp h)) (fun h => kf (by have q := mt (nI_leI ha hb2).mpr h; omega))
theorem n_if_eq (hexec : p.tables.exec = Jvm.exec) (hb : c.code = cc) {a : Nat} {off : Int} {tgt : Nat} (hdg : decode cc pc = .ok (.ifCond .eq off, 3)) (ht : (pc : Int) + off = (tgt : Int)) (ha : a < 2147483648) (kt : a = 0 → W p l e R s m args below meth c H locs cells slots Q (F0 m tgt ls rest)) (kf : 0 < a → W p l e R s m args below meth c H locs cells slots Q (F0 m (pc + 3) ls rest)) : W p l e R s m args below meth c H locs cells slots Q (F0 m pc ls (.int (nI a) :: rest)) := lv_if_eq hexec hb hdg ht (fun h => kt ((nI_eqz ha).mp h)) (fun h => kf (by have q := mt (nI_eqz ha).mpr h; omega))
theorem n_if_ne (hexec : p.tables.exec = Jvm.exec) (hb : c.code = cc) {a : Nat} {off : Int} {tgt : Nat} (hdg : decode cc pc = .ok (.ifCond .ne off, 3)) (ht : (pc : Int) + off = (tgt : Int)) (ha : a < 2147483648) (kt : 0 < a → W p l e R s m args below meth c H locs cells slots Q (F0 m tgt ls rest)) (kf : a = 0 → W p l e R s m args below meth c H locs cells slots Q (F0 m (pc + 3) ls rest)) : W p l e R s m args below meth c H locs cells slots Q (F0 m pc ls (.int (nI a) :: rest)) := lv_if_ne hexec hb hdg ht (fun h => kt (by have q := mt (nI_eqz ha).mpr h; omega)) (fun h => kf ((nI_eqz ha).mp (by first | exact h | exact Classical.not_not.mp h)))
theorem n_if_gt (hexec : p.tables.exec = Jvm.exec) (hb : c.code = cc) {a : Nat} {off : Int} {tgt : Nat} (hdg : decode cc pc = .ok (.ifCond .gt off, 3)) (ht : (pc : Int) + off = (tgt : Int)) (ha : a < 2147483648) (kt : 0 < a → W p l e R s m args below meth c H locs cells slots Q (F0 m tgt ls rest)) (kf : a = 0 → W p l e R s m args below meth c H locs cells slots Q (F0 m (pc + 3) ls rest)) : W p l e R s m args below meth c H locs cells slots Q (F0 m pc ls (.int (nI a) :: rest)) := lv_if_gt hexec hb hdg ht (fun h => kt ((nI_gtz ha).mp h)) (fun h => kf (by have q := mt (nI_gtz ha).mpr h; omega))
theorem n_if_le (hexec : p.tables.exec = Jvm.exec) (hb : c.code = cc) {a : Nat} {off : Int} {tgt : Nat} (hdg : decode cc pc = .ok (.ifCond .le off, 3)) (ht : (pc : Int) + off = (tgt : Int)) (ha : a < 2147483648) (kt : a = 0 → W p l e R s m args below meth c H locs cells slots Q (F0 m tgt ls rest)) (kf : 0 < a → W p l e R s m args below meth c H locs cells slots Q (F0 m (pc + 3) ls rest)) : W p l e R s m args below meth c H locs cells slots Q (F0 m pc ls (.int (nI a) :: rest)) := lv_if_le hexec hb hdg ht (fun h => kt ((nI_lez ha).mp h)) (fun h => kf (by have q := mt (nI_lez ha).mpr h; omega))
theorem n_if_lt (hexec : p.tables.exec = Jvm.exec) (hb : c.code = cc) {a : Nat} {off : Int} (hdg : decode cc pc = .ok (.ifCond .lt off, 3)) (hoff : 0 ≤ (pc : Int) + off) (ha : a < 2147483648) (kf : W p l e R s m args below meth c H locs cells slots Q (F0 m (pc + 3) ls rest)) : W p l e R s m args below meth c H locs cells slots Q (F0 m pc ls (.int (nI a) :: rest)) := lv_if_lt hexec hb hdg (tgt := ((pc : Int) + off).toNat) (Int.toNat_of_nonneg hoff).symm (fun h => absurd h (nI_ltz ha)) (fun _ => kf)
theorem n_if_ge (hexec : p.tables.exec = Jvm.exec) (hb : c.code = cc) {a : Nat} {off : Int} {tgt : Nat} (hdg : decode cc pc = .ok (.ifCond .ge off, 3)) (ht : (pc : Int) + off = (tgt : Int)) (ha : a < 2147483648) (kt : W p l e R s m args below meth c H locs cells slots Q (F0 m tgt ls rest)) : W p l e R s m args below meth c H locs cells slots Q (F0 m pc ls (.int (nI a) :: rest)) := lv_if_ge hexec hb hdg ht (fun _ => kt) (fun h => absurd (nI_pos' ha) h)
theorem nI_mz : nI 0 - 1 < 0 := by decide +kernel
theorem nI_ms {k : Nat} (h : 0 < k) : nI k - 1 = nI (k - 1) := by
  obtain ⟨j, rfl⟩ : ∃ j, k = j + 1 := ⟨k - 1, by omega⟩
  exact nI_pred j
theorem d_if_lt (hexec : p.tables.exec = Jvm.exec) (hb : c.code = cc) {k : Nat} {off : Int} {tgt : Nat} (hdg : decode cc pc = .ok (.ifCond .lt off, 3)) (ht : (pc : Int) + off = (tgt : Int)) (hk : k < 2147483648) (kt : k = 0 → W p l e R s m args below meth c H locs cells slots Q (F0 m tgt ls rest)) (kf : 0 < k → W p l e R s m args below meth c H locs cells slots Q (F0 m (pc + 3) ls rest)) : W p l e R s m args below meth c H locs cells slots Q (F0 m pc ls (.int (nI k - 1) :: rest)) := lv_if_lt hexec hb hdg ht (fun h => kt (by apply Nat.eq_zero_of_not_pos; intro q; rw [nI_ms q] at h; exact nI_ltz (by omega) h)) (fun h => kf (by apply Nat.pos_of_ne_zero; intro q; subst q; exact h nI_mz))
theorem d_if_ge (hexec : p.tables.exec = Jvm.exec) (hb : c.code = cc) {k : Nat} {off : Int} {tgt : Nat} (hdg : decode cc pc = .ok (.ifCond .ge off, 3)) (ht : (pc : Int) + off = (tgt : Int)) (hk : k < 2147483648) (kt : 0 < k → W p l e R s m args below meth c H locs cells slots Q (F0 m tgt ls rest)) (kf : k = 0 → W p l e R s m args below meth c H locs cells slots Q (F0 m (pc + 3) ls rest)) : W p l e R s m args below meth c H locs cells slots Q (F0 m pc ls (.int (nI k - 1) :: rest)) := lv_if_ge hexec hb hdg ht (fun h => kt (by apply Nat.pos_of_ne_zero; intro q; subst q; exact absurd h (by decide +kernel))) (fun h => kf (by apply Nat.eq_zero_of_not_pos; intro q; rw [nI_ms q] at h; exact h (nI_pos' (by omega))))
theorem lc_eq (hexec : p.tables.exec = Jvm.exec) (hb : c.code = cc) {x y : Int64} {off : Int} {tgt : Nat} (hd1 : decode cc pc = .ok (.lcmp, 1)) (hd2 : decode cc (pc + 1) = .ok (.ifCond .eq off, 3)) (ht : ((pc + 1 : Nat) : Int) + off = (tgt : Int)) (kt : x.toInt = y.toInt → W p l e R s m args below meth c H locs cells slots Q (F0 m tgt ls rest)) (kf : x.toInt ≠ y.toInt → W p l e R s m args below meth c H locs cells slots Q (F0 m (pc + 1 + 3) ls rest)) : W p l e R s m args below meth c H locs cells slots Q (F0 m pc ls (.long y :: .long x :: rest)) := by
  refine W.lcmp hexec hb hd1 (lv_if_eq hexec hb hd2 ht (fun h => kt ?_) (fun h => kf ?_))
  · rw [lg_cmp_eq, ← Int64.toInt_inj] at h; omega
  · rw [lg_cmp_eq, ← Int64.toInt_inj] at h; omega
theorem lc_ne (hexec : p.tables.exec = Jvm.exec) (hb : c.code = cc) {x y : Int64} {off : Int} {tgt : Nat} (hd1 : decode cc pc = .ok (.lcmp, 1)) (hd2 : decode cc (pc + 1) = .ok (.ifCond .ne off, 3)) (ht : ((pc + 1 : Nat) : Int) + off = (tgt : Int)) (kt : x.toInt ≠ y.toInt → W p l e R s m args below meth c H locs cells slots Q (F0 m tgt ls rest)) (kf : x.toInt = y.toInt → W p l e R s m args below meth c H locs cells slots Q (F0 m (pc + 1 + 3) ls rest)) : W p l e R s m args below meth c H locs cells slots Q (F0 m pc ls (.long y :: .long x :: rest)) := by
  refine W.lcmp hexec hb hd1 (lv_if_ne hexec hb hd2 ht (fun h => kt ?_) (fun h => kf ?_))
  · rw [lg_cmp_eq, ← Int64.toInt_inj] at h; omega
  · rw [lg_cmp_eq, ← Int64.toInt_inj] at h; omega
theorem lc_lt (hexec : p.tables.exec = Jvm.exec) (hb : c.code = cc) {x y : Int64} {off : Int} {tgt : Nat} (hd1 : decode cc pc = .ok (.lcmp, 1)) (hd2 : decode cc (pc + 1) = .ok (.ifCond .lt off, 3)) (ht : ((pc + 1 : Nat) : Int) + off = (tgt : Int)) (kt : x.toInt < y.toInt → W p l e R s m args below meth c H locs cells slots Q (F0 m tgt ls rest)) (kf : y.toInt ≤ x.toInt → W p l e R s m args below meth c H locs cells slots Q (F0 m (pc + 1 + 3) ls rest)) : W p l e R s m args below meth c H locs cells slots Q (F0 m pc ls (.long y :: .long x :: rest)) := by
  refine W.lcmp hexec hb hd1 (lv_if_lt hexec hb hd2 ht (fun h => kt ?_) (fun h => kf ?_))
  · rw [lg_cmp_lt, Int64.lt_iff_toInt_lt] at h; omega
  · rw [lg_cmp_lt, Int64.lt_iff_toInt_lt] at h; omega
theorem lc_ge (hexec : p.tables.exec = Jvm.exec) (hb : c.code = cc) {x y : Int64} {off : Int} {tgt : Nat} (hd1 : decode cc pc = .ok (.lcmp, 1)) (hd2 : decode cc (pc + 1) = .ok (.ifCond .ge off, 3)) (ht : ((pc + 1 : Nat) : Int) + off = (tgt : Int)) (kt : y.toInt ≤ x.toInt → W p l e R s m args below meth c H locs cells slots Q (F0 m tgt ls rest)) (kf : x.toInt < y.toInt → W p l e R s m args below meth c H locs cells slots Q (F0 m (pc + 1 + 3) ls rest)) : W p l e R s m args below meth c H locs cells slots Q (F0 m pc ls (.long y :: .long x :: rest)) := by
  refine W.lcmp hexec hb hd1 (lv_if_ge hexec hb hd2 ht (fun h => kt ?_) (fun h => kf ?_))
  · rw [lg_cmp_ge, Int64.le_iff_toInt_le] at h; omega
  · rw [lg_cmp_ge, Int64.le_iff_toInt_le] at h; omega
theorem lc_gt (hexec : p.tables.exec = Jvm.exec) (hb : c.code = cc) {x y : Int64} {off : Int} {tgt : Nat} (hd1 : decode cc pc = .ok (.lcmp, 1)) (hd2 : decode cc (pc + 1) = .ok (.ifCond .gt off, 3)) (ht : ((pc + 1 : Nat) : Int) + off = (tgt : Int)) (kt : y.toInt < x.toInt → W p l e R s m args below meth c H locs cells slots Q (F0 m tgt ls rest)) (kf : x.toInt ≤ y.toInt → W p l e R s m args below meth c H locs cells slots Q (F0 m (pc + 1 + 3) ls rest)) : W p l e R s m args below meth c H locs cells slots Q (F0 m pc ls (.long y :: .long x :: rest)) := by
  refine W.lcmp hexec hb hd1 (lv_if_gt hexec hb hd2 ht (fun h => kt ?_) (fun h => kf ?_))
  · rw [lg_cmp_gt, Int64.lt_iff_toInt_lt] at h; omega
  · rw [lg_cmp_gt, Int64.lt_iff_toInt_lt] at h; omega
theorem lc_le (hexec : p.tables.exec = Jvm.exec) (hb : c.code = cc) {x y : Int64} {off : Int} {tgt : Nat} (hd1 : decode cc pc = .ok (.lcmp, 1)) (hd2 : decode cc (pc + 1) = .ok (.ifCond .le off, 3)) (ht : ((pc + 1 : Nat) : Int) + off = (tgt : Int)) (kt : x.toInt ≤ y.toInt → W p l e R s m args below meth c H locs cells slots Q (F0 m tgt ls rest)) (kf : y.toInt < x.toInt → W p l e R s m args below meth c H locs cells slots Q (F0 m (pc + 1 + 3) ls rest)) : W p l e R s m args below meth c H locs cells slots Q (F0 m pc ls (.long y :: .long x :: rest)) := by
  refine W.lcmp hexec hb hd1 (lv_if_le hexec hb hd2 ht (fun h => kt ?_) (fun h => kf ?_))
  · rw [lg_cmp_le, Int64.le_iff_toInt_le] at h; omega
  · rw [lg_cmp_le, Int64.le_iff_toInt_le] at h; omega
end RW
end
section
/-! the good words of the tables; codes and names of the methods -/
def bg : List Cond := lw_tbl.filter goodWord
theorem bg_good : ∀ w ∈ bg, goodWord w = true := fun w h => (List.mem_filter.mp h).2
theorem bg_tbl : ∀ w ∈ bg, w ∈ lw_tbl := fun w h => (List.mem_filter.mp h).1
theorem bg_at {w : Cond} (i : Nat) (h : (lw_tbl)[i]? = some w) (hg : goodWord w = true) : w ∈ bg := List.mem_filter.mpr ⟨List.mem_of_getElem? h, hg⟩
def TM : u_T := fun k => match k with
  | 0 => ("LimbRegistersModel", "code", "I", false)
  | 1 => ("LimbRegistersModel", "d", "[I", true)
  | 2 => ("LimbRegistersModel", "size", "[I", true)
  | 3 => ("LimbRegistersModel", "sign", "[I", true)
  | 4 => ("LimbRegistersModel", "length", "I", false)
  | _ => ("LimbRegistersModel", "text", "[I", true)
def tyM : Nat → FieldType := fun k => match k with
  | 0 => .int
  | 1 => .array .int
  | 2 => .array .int
  | 3 => .array .int
  | 4 => .int
  | _ => .array .int
theorem nmM : ∀ a, a < 6 → ∀ b, b < 6 → a ≠ b → (TM a).2.1 ≠ (TM b).2.1 := by decide +kernel
theorem tyM_ok : ∀ k, k < 6 → parseFieldDescriptor (TM k).2.2.1 = some (tyM k) := by decide +kernel
abbrev clS : List vw_C := [(RX0, TX0, 3), (RX1, TX1, 7), (RX2, TX2, 2), (RX3, TX3, 4), (RX4, TX4, 4), (RX5, TX5, 2), (RX6, TX6, 2), (RX7, TX7, 7), ("LimbRegistersModel", TM, 6)]
theorem in_c0 : ∀ w ∈ u_ws RX0 TX0 3, w ∈ bg := by decide +kernel
theorem in_c1 : ∀ w ∈ u_ws RX1 TX1 7, w ∈ bg := by decide +kernel
theorem in_c2 : ∀ w ∈ u_ws RX2 TX2 2, w ∈ bg := by decide +kernel
theorem in_c3 : ∀ w ∈ u_ws RX3 TX3 4, w ∈ bg := by decide +kernel
theorem in_c4 : ∀ w ∈ u_ws RX4 TX4 4, w ∈ bg := by decide +kernel
theorem in_c5 : ∀ w ∈ u_ws RX5 TX5 2, w ∈ bg := by decide +kernel
theorem in_c6 : ∀ w ∈ u_ws RX6 TX6 2, w ∈ bg := by decide +kernel
theorem in_c7 : ∀ w ∈ u_ws RX7 TX7 7, w ∈ bg := by decide +kernel
theorem in_c8 : ∀ w ∈ u_ws "LimbRegistersModel" TM 6, w ∈ bg := by decide +kernel
abbrev c_D_guessLimb : ByteArray := prog_2_method_5_code
def y_D_guessLimb : MethodName := ⟨"LimbRegisters$Division", "guessLimb", "(I)J"⟩
abbrev c_D_init : ByteArray := prog_2_method_1_code
def y_D_init : MethodName := ⟨"LimbRegisters$Division", "<init>", "()V"⟩
abbrev c_D_nextLimb : ByteArray := prog_2_method_4_code
def y_D_nextLimb : MethodName := ⟨"LimbRegisters$Division", "nextLimb", "(I)J"⟩
abbrev c_D_putBack : ByteArray := prog_2_method_7_code
def y_D_putBack : MethodName := ⟨"LimbRegisters$Division", "putBack", "(I)V"⟩
abbrev c_D_run : ByteArray := prog_2_method_2_code
def y_D_run : MethodName := ⟨"LimbRegisters$Division", "run", "(LLimbRegisters$Natural;LLimbRegisters$Natural;)V"⟩
abbrev c_D_stepOver : ByteArray := prog_2_method_3_code
def y_D_stepOver : MethodName := ⟨"LimbRegisters$Division", "stepOver", "(LLimbRegisters$Natural;)V"⟩
abbrev c_D_takeAway : ByteArray := prog_2_method_6_code
def y_D_takeAway : MethodName := ⟨"LimbRegisters$Division", "takeAway", "(IJ)Z"⟩
abbrev c_E_bringFactorWithin : ByteArray := prog_3_method_3_code
def y_E_bringFactorWithin : MethodName := ⟨"LimbRegisters$Euclid", "bringFactorWithin", "(LLimbRegisters$Natural;)V"⟩
abbrev c_E_init : ByteArray := prog_3_method_1_code
def y_E_init : MethodName := ⟨"LimbRegisters$Euclid", "<init>", "()V"⟩
abbrev c_E_run : ByteArray := prog_3_method_2_code
def y_E_run : MethodName := ⟨"LimbRegisters$Euclid", "run", "(LLimbRegisters$Natural;LLimbRegisters$Natural;)V"⟩
abbrev c_JI_numberOfLeadingZeros : ByteArray := prog_16_method_47_code
def y_JI_numberOfLeadingZeros : MethodName := ⟨"java/lang/Integer", "numberOfLeadingZeros", "(I)I"⟩
abbrev c_JL_numberOfLeadingZeros : ByteArray := prog_17_method_48_code
def y_JL_numberOfLeadingZeros : MethodName := ⟨"java/lang/Long", "numberOfLeadingZeros", "(J)I"⟩
abbrev c_JM_maxI : ByteArray := prog_18_method_65_code
def y_JM_maxI : MethodName := ⟨"java/lang/Math", "max", "(II)I"⟩
abbrev c_JM_minI : ByteArray := prog_18_method_69_code
def y_JM_minI : MethodName := ⟨"java/lang/Math", "min", "(II)I"⟩
abbrev c_JM_minJ : ByteArray := prog_18_method_70_code
def y_JM_minJ : MethodName := ⟨"java/lang/Math", "min", "(JJ)J"⟩
abbrev c_L_add : ByteArray := prog_1_method_4_code
def y_L_add : MethodName := ⟨"LimbRegisters", "add", "(III)V"⟩
abbrev c_L_bit : ByteArray := prog_1_method_15_code
def y_L_bit : MethodName := ⟨"LimbRegisters", "bit", "(II)Z"⟩
abbrev c_L_bits : ByteArray := prog_1_method_14_code
def y_L_bits : MethodName := ⟨"LimbRegisters", "bits", "(I)I"⟩
abbrev c_L_character : ByteArray := prog_1_method_21_code
def y_L_character : MethodName := ⟨"LimbRegisters", "character", "(I)I"⟩
abbrev c_L_compare : ByteArray := prog_1_method_13_code
def y_L_compare : MethodName := ⟨"LimbRegisters", "compare", "(II)I"⟩
abbrev c_L_copy : ByteArray := prog_1_method_3_code
def y_L_copy : MethodName := ⟨"LimbRegisters", "copy", "(IIZ)V"⟩
abbrev c_L_divide : ByteArray := prog_1_method_7_code
def y_L_divide : MethodName := ⟨"LimbRegisters", "divide", "(IIIIZ)V"⟩
abbrev c_L_gcd : ByteArray := prog_1_method_10_code
def y_L_gcd : MethodName := ⟨"LimbRegisters", "gcd", "(III)V"⟩
abbrev c_L_init : ByteArray := prog_1_method_1_code
def y_L_init : MethodName := ⟨"LimbRegisters", "<init>", "()V"⟩
abbrev c_L_inverse : ByteArray := prog_1_method_12_code
def y_L_inverse : MethodName := ⟨"LimbRegisters", "inverse", "(III)V"⟩
abbrev c_L_keepAnswer : ByteArray := prog_1_method_25_code
def y_L_keepAnswer : MethodName := ⟨"LimbRegisters", "keepAnswer", "(I)V"⟩
abbrev c_L_low : ByteArray := prog_1_method_16_code
def y_L_low : MethodName := ⟨"LimbRegisters", "low", "(I)J"⟩
abbrev c_L_multiply : ByteArray := prog_1_method_6_code
def y_L_multiply : MethodName := ⟨"LimbRegisters", "multiply", "(III)V"⟩
abbrev c_L_needModulus : ByteArray := prog_1_method_24_code
def y_L_needModulus : MethodName := ⟨"LimbRegisters", "needModulus", "(I)V"⟩
abbrev c_L_needRadix : ByteArray := prog_1_method_23_code
def y_L_needRadix : MethodName := ⟨"LimbRegisters", "needRadix", "(I)V"⟩
abbrev c_L_needRegister : ByteArray := prog_1_method_22_code
def y_L_needRegister : MethodName := ⟨"LimbRegisters", "needRegister", "(I)V"⟩
abbrev c_L_parse : ByteArray := prog_1_method_19_code
def y_L_parse : MethodName := ⟨"LimbRegisters", "parse", "(II)I"⟩
abbrev c_L_power : ByteArray := prog_1_method_11_code
def y_L_power : MethodName := ⟨"LimbRegisters", "power", "(IIII)V"⟩
abbrev c_L_print : ByteArray := prog_1_method_20_code
def y_L_print : MethodName := ⟨"LimbRegisters", "print", "(II)I"⟩
abbrev c_L_root : ByteArray := prog_1_method_9_code
def y_L_root : MethodName := ⟨"LimbRegisters", "root", "(III)V"⟩
abbrev c_L_set : ByteArray := prog_1_method_2_code
def y_L_set : MethodName := ⟨"LimbRegisters", "set", "(IJ)V"⟩
abbrev c_L_shift : ByteArray := prog_1_method_8_code
def y_L_shift : MethodName := ⟨"LimbRegisters", "shift", "(III)V"⟩
abbrev c_L_subtract : ByteArray := prog_1_method_5_code
def y_L_subtract : MethodName := ⟨"LimbRegisters", "subtract", "(III)V"⟩
abbrev c_L_type : ByteArray := prog_1_method_17_code
def y_L_type : MethodName := ⟨"LimbRegisters", "type", "(JI)I"⟩
abbrev c_L_wipe : ByteArray := prog_1_method_18_code
def y_L_wipe : MethodName := ⟨"LimbRegisters", "wipe", "()I"⟩
abbrev c_M_add : ByteArray := prog_10_method_26_code
def y_M_add : MethodName := ⟨"LimbRegistersModel", "add", "(III)V"⟩
abbrev c_M_bit : ByteArray := prog_10_method_42_code
def y_M_bit : MethodName := ⟨"LimbRegistersModel", "bit", "(II)Z"⟩
abbrev c_M_bitOf : ByteArray := prog_10_method_31_code
def y_M_bitOf : MethodName := ⟨"LimbRegistersModel", "bitOf", "(II)Z"⟩
abbrev c_M_bits : ByteArray := prog_10_method_41_code
def y_M_bits : MethodName := ⟨"LimbRegistersModel", "bits", "(I)I"⟩
abbrev c_M_bitsOf : ByteArray := prog_10_method_30_code
def y_M_bitsOf : MethodName := ⟨"LimbRegistersModel", "bitsOf", "(I)I"⟩
abbrev c_M_character : ByteArray := prog_10_method_51_code
def y_M_character : MethodName := ⟨"LimbRegistersModel", "character", "(I)I"⟩
abbrev c_M_clear : ByteArray := prog_10_method_4_code
def y_M_clear : MethodName := ⟨"LimbRegistersModel", "clear", "(I)V"⟩
abbrev c_M_compare : ByteArray := prog_10_method_40_code
def y_M_compare : MethodName := ⟨"LimbRegistersModel", "compare", "(II)I"⟩
abbrev c_M_copy : ByteArray := prog_10_method_24_code
def y_M_copy : MethodName := ⟨"LimbRegistersModel", "copy", "(IIZ)V"⟩
abbrev c_M_digit : ByteArray := prog_10_method_46_code
def y_M_digit : MethodName := ⟨"LimbRegistersModel", "digit", "(I)I"⟩
abbrev c_M_divide : ByteArray := prog_10_method_29_code
def y_M_divide : MethodName := ⟨"LimbRegistersModel", "divide", "(IIIIZ)V"⟩
abbrev c_M_finish : ByteArray := prog_10_method_22_code
def y_M_finish : MethodName := ⟨"LimbRegistersModel", "finish", "(IIII)V"⟩
abbrev c_M_fits : ByteArray := prog_10_method_35_code
def y_M_fits : MethodName := ⟨"LimbRegistersModel", "fits", "(II)Z"⟩
abbrev c_M_gcd : ByteArray := prog_10_method_37_code
def y_M_gcd : MethodName := ⟨"LimbRegistersModel", "gcd", "(III)V"⟩
abbrev c_M_goes : ByteArray := prog_10_method_13_code
def y_M_goes : MethodName := ⟨"LimbRegistersModel", "goes", "(III)Z"⟩
abbrev c_M_grow : ByteArray := prog_10_method_47_code
def y_M_grow : MethodName := ⟨"LimbRegistersModel", "grow", "(II)V"⟩
abbrev c_M_guess : ByteArray := prog_10_method_12_code
def y_M_guess : MethodName := ⟨"LimbRegistersModel", "guess", "(III)J"⟩
abbrev c_M_init : ByteArray := prog_10_method_1_code
def y_M_init : MethodName := ⟨"LimbRegistersModel", "<init>", "()V"⟩
abbrev c_M_inverse : ByteArray := prog_10_method_39_code
def y_M_inverse : MethodName := ⟨"LimbRegistersModel", "inverse", "(III)V"⟩
abbrev c_M_is : ByteArray := prog_10_method_18_code
def y_M_is : MethodName := ⟨"LimbRegistersModel", "is", "(I)Z"⟩
abbrev c_M_isGreat : ByteArray := prog_10_method_20_code
def y_M_isGreat : MethodName := ⟨"LimbRegistersModel", "isGreat", "(I)Z"⟩
abbrev c_M_join : ByteArray := prog_10_method_25_code
def y_M_join : MethodName := ⟨"LimbRegistersModel", "join", "(IIII)V"⟩
abbrev c_M_low : ByteArray := prog_10_method_43_code
def y_M_low : MethodName := ⟨"LimbRegistersModel", "low", "(I)J"⟩
abbrev c_M_minus : ByteArray := prog_10_method_9_code
def y_M_minus : MethodName := ⟨"LimbRegistersModel", "minus", "(III)V"⟩
abbrev c_M_move : ByteArray := prog_10_method_5_code
def y_M_move : MethodName := ⟨"LimbRegistersModel", "move", "(II)V"⟩
abbrev c_M_multiply : ByteArray := prog_10_method_28_code
def y_M_multiply : MethodName := ⟨"LimbRegistersModel", "multiply", "(III)V"⟩
abbrev c_M_order : ByteArray := prog_10_method_7_code
def y_M_order : MethodName := ⟨"LimbRegistersModel", "order", "(II)I"⟩
abbrev c_M_parse : ByteArray := prog_10_method_48_code
def y_M_parse : MethodName := ⟨"LimbRegistersModel", "parse", "(II)I"⟩
abbrev c_M_plus : ByteArray := prog_10_method_8_code
def y_M_plus : MethodName := ⟨"LimbRegistersModel", "plus", "(III)V"⟩
abbrev c_M_power : ByteArray := prog_10_method_38_code
def y_M_power : MethodName := ⟨"LimbRegistersModel", "power", "(IIII)V"⟩
abbrev c_M_print : ByteArray := prog_10_method_50_code
def y_M_print : MethodName := ⟨"LimbRegistersModel", "print", "(II)I"⟩
abbrev c_M_raise : ByteArray := prog_10_method_32_code
def y_M_raise : MethodName := ⟨"LimbRegistersModel", "raise", "(II)V"⟩
abbrev c_M_reduce : ByteArray := prog_10_method_16_code
def y_M_reduce : MethodName := ⟨"LimbRegistersModel", "reduce", "(III)V"⟩
abbrev c_M_restAt : ByteArray := prog_10_method_11_code
def y_M_restAt : MethodName := ⟨"LimbRegistersModel", "restAt", "(I)J"⟩
abbrev c_M_root : ByteArray := prog_10_method_36_code
def y_M_root : MethodName := ⟨"LimbRegistersModel", "root", "(III)V"⟩
abbrev c_M_set : ByteArray := prog_10_method_23_code
def y_M_set : MethodName := ⟨"LimbRegistersModel", "set", "(IJ)V"⟩
abbrev c_M_shift : ByteArray := prog_10_method_34_code
def y_M_shift : MethodName := ⟨"LimbRegistersModel", "shift", "(III)V"⟩
abbrev c_M_shrink : ByteArray := prog_10_method_49_code
def y_M_shrink : MethodName := ⟨"LimbRegistersModel", "shrink", "(I)I"⟩
abbrev c_M_slide : ByteArray := prog_10_method_33_code
def y_M_slide : MethodName := ⟨"LimbRegistersModel", "slide", "(II)Z"⟩
abbrev c_M_small : ByteArray := prog_10_method_6_code
def y_M_small : MethodName := ⟨"LimbRegistersModel", "small", "(II)V"⟩
abbrev c_M_split : ByteArray := prog_10_method_15_code
def y_M_split : MethodName := ⟨"LimbRegistersModel", "split", "(II)V"⟩
abbrev c_M_store : ByteArray := prog_10_method_21_code
def y_M_store : MethodName := ⟨"LimbRegistersModel", "store", "(III)V"⟩
abbrev c_M_subtract : ByteArray := prog_10_method_27_code
def y_M_subtract : MethodName := ⟨"LimbRegistersModel", "subtract", "(III)V"⟩
abbrev c_M_takeAway : ByteArray := prog_10_method_14_code
def y_M_takeAway : MethodName := ⟨"LimbRegistersModel", "takeAway", "(IIIJ)V"⟩
abbrev c_M_three : ByteArray := prog_10_method_19_code
def y_M_three : MethodName := ⟨"LimbRegistersModel", "three", "(III)Z"⟩
abbrev c_M_thrown : ByteArray := prog_10_method_2_code
def y_M_thrown : MethodName := ⟨"LimbRegistersModel", "thrown", "()I"⟩
abbrev c_M_times : ByteArray := prog_10_method_10_code
def y_M_times : MethodName := ⟨"LimbRegistersModel", "times", "(III)V"⟩
abbrev c_M_timesBy : ByteArray := prog_10_method_17_code
def y_M_timesBy : MethodName := ⟨"LimbRegistersModel", "timesBy", "(IIII)V"⟩
abbrev c_M_trim : ByteArray := prog_10_method_3_code
def y_M_trim : MethodName := ⟨"LimbRegistersModel", "trim", "(I)V"⟩
abbrev c_M_type : ByteArray := prog_10_method_44_code
def y_M_type : MethodName := ⟨"LimbRegistersModel", "type", "(JI)I"⟩
abbrev c_M_wipe : ByteArray := prog_10_method_45_code
def y_M_wipe : MethodName := ⟨"LimbRegistersModel", "wipe", "()I"⟩
abbrev c_N_at : ByteArray := prog_4_method_4_code
def y_N_at : MethodName := ⟨"LimbRegisters$Natural", "at", "(I)J"⟩
abbrev c_N_carryUp : ByteArray := prog_4_method_22_code
def y_N_carryUp : MethodName := ⟨"LimbRegisters$Natural", "carryUp", "(I)V"⟩
abbrev c_N_clear : ByteArray := prog_4_method_11_code
def y_N_clear : MethodName := ⟨"LimbRegisters$Natural", "clear", "()V"⟩
abbrev c_N_gather : ByteArray := prog_4_method_21_code
def y_N_gather : MethodName := ⟨"LimbRegisters$Natural", "gather", "(LLimbRegisters$Natural;IIJ)V"⟩
abbrev c_N_hasBit : ByteArray := prog_4_method_5_code
def y_N_hasBit : MethodName := ⟨"LimbRegisters$Natural", "hasBit", "(I)Z"⟩
abbrev c_N_hasBitBelow : ByteArray := prog_4_method_8_code
def y_N_hasBitBelow : MethodName := ⟨"LimbRegisters$Natural", "hasBitBelow", "(I)Z"⟩
abbrev c_N_increase : ByteArray := prog_4_method_18_code
def y_N_increase : MethodName := ⟨"LimbRegisters$Natural", "increase", "()V"⟩
abbrev c_N_init : ByteArray := prog_4_method_1_code
def y_N_init : MethodName := ⟨"LimbRegisters$Natural", "<init>", "()V"⟩
abbrev c_N_isOne : ByteArray := prog_4_method_3_code
def y_N_isOne : MethodName := ⟨"LimbRegisters$Natural", "isOne", "()Z"⟩
abbrev c_N_isZero : ByteArray := prog_4_method_2_code
def y_N_isZero : MethodName := ⟨"LimbRegisters$Natural", "isZero", "()Z"⟩
abbrev c_N_length : ByteArray := prog_4_method_6_code
def y_N_length : MethodName := ⟨"LimbRegisters$Natural", "length", "()I"⟩
abbrev c_N_lowLong : ByteArray := prog_4_method_9_code
def y_N_lowLong : MethodName := ⟨"LimbRegisters$Natural", "lowLong", "()J"⟩
abbrev c_N_order : ByteArray := prog_4_method_10_code
def y_N_order : MethodName := ⟨"LimbRegisters$Natural", "order", "(LLimbRegisters$Natural;)I"⟩
abbrev c_N_popDigit : ByteArray := prog_4_method_26_code
def y_N_popDigit : MethodName := ⟨"LimbRegisters$Natural", "popDigit", "(I)I"⟩
abbrev c_N_pushDigit : ByteArray := prog_4_method_25_code
def y_N_pushDigit : MethodName := ⟨"LimbRegisters$Natural", "pushDigit", "(II)V"⟩
abbrev c_N_putBit : ByteArray := prog_4_method_15_code
def y_N_putBit : MethodName := ⟨"LimbRegisters$Natural", "putBit", "(I)V"⟩
abbrev c_N_settle : ByteArray := prog_4_method_12_code
def y_N_settle : MethodName := ⟨"LimbRegisters$Natural", "settle", "(I)V"⟩
abbrev c_N_spareBits : ByteArray := prog_4_method_7_code
def y_N_spareBits : MethodName := ⟨"LimbRegisters$Natural", "spareBits", "()I"⟩
abbrev c_N_take : ByteArray := prog_4_method_13_code
def y_N_take : MethodName := ⟨"LimbRegisters$Natural", "take", "(LLimbRegisters$Natural;)V"⟩
abbrev c_N_takeDifference : ByteArray := prog_4_method_17_code
def y_N_takeDifference : MethodName := ⟨"LimbRegisters$Natural", "takeDifference", "(LLimbRegisters$Natural;LLimbRegisters$Natural;)V"⟩
abbrev c_N_takeLowered : ByteArray := prog_4_method_24_code
def y_N_takeLowered : MethodName := ⟨"LimbRegisters$Natural", "takeLowered", "(LLimbRegisters$Natural;I)V"⟩
abbrev c_N_takeProduct : ByteArray := prog_4_method_19_code
def y_N_takeProduct : MethodName := ⟨"LimbRegisters$Natural", "takeProduct", "(LLimbRegisters$Natural;LLimbRegisters$Natural;)V"⟩
abbrev c_N_takeRaised : ByteArray := prog_4_method_23_code
def y_N_takeRaised : MethodName := ⟨"LimbRegisters$Natural", "takeRaised", "(LLimbRegisters$Natural;I)V"⟩
abbrev c_N_takeSquare : ByteArray := prog_4_method_20_code
def y_N_takeSquare : MethodName := ⟨"LimbRegisters$Natural", "takeSquare", "(LLimbRegisters$Natural;)V"⟩
abbrev c_N_takeSum : ByteArray := prog_4_method_16_code
def y_N_takeSum : MethodName := ⟨"LimbRegisters$Natural", "takeSum", "(LLimbRegisters$Natural;LLimbRegisters$Natural;)V"⟩
abbrev c_N_takeUnsigned : ByteArray := prog_4_method_14_code
def y_N_takeUnsigned : MethodName := ⟨"LimbRegisters$Natural", "takeUnsigned", "(J)V"⟩
abbrev c_O_init : ByteArray := prog_6_method_1_code
def y_O_init : MethodName := ⟨"LimbRegisters$Roots", "<init>", "()V"⟩
abbrev c_O_isTrialWithin : ByteArray := prog_6_method_3_code
def y_O_isTrialWithin : MethodName := ⟨"LimbRegisters$Roots", "isTrialWithin", "(LLimbRegisters$Natural;I)Z"⟩
abbrev c_O_run : ByteArray := prog_6_method_2_code
def y_O_run : MethodName := ⟨"LimbRegisters$Roots", "run", "(LLimbRegisters$Natural;I)V"⟩
abbrev c_S_init : ByteArray := prog_5_method_1_code
def y_S_init : MethodName := ⟨"LimbRegisters$Residues", "<init>", "()V"⟩
abbrev c_S_raise : ByteArray := prog_5_method_3_code
def y_S_raise : MethodName := ⟨"LimbRegisters$Residues", "raise", "(LLimbRegisters$Whole;LLimbRegisters$Natural;LLimbRegisters$Natural;)V"⟩
abbrev c_S_reduce : ByteArray := prog_5_method_2_code
def y_S_reduce : MethodName := ⟨"LimbRegisters$Residues", "reduce", "(LLimbRegisters$Whole;LLimbRegisters$Natural;)V"⟩
abbrev c_S_reduceProduct : ByteArray := prog_5_method_4_code
def y_S_reduceProduct : MethodName := ⟨"LimbRegisters$Residues", "reduceProduct", "(LLimbRegisters$Natural;)V"⟩
abbrev c_T_append : ByteArray := prog_7_method_5_code
def y_T_append : MethodName := ⟨"LimbRegisters$Text", "append", "(I)V"⟩
abbrev c_T_appendAll : ByteArray := prog_7_method_4_code
def y_T_appendAll : MethodName := ⟨"LimbRegisters$Text", "appendAll", "(JI)V"⟩
abbrev c_T_areCharacters : ByteArray := prog_7_method_2_code
def y_T_areCharacters : MethodName := ⟨"LimbRegisters$Text", "areCharacters", "(JI)Z"⟩
abbrev c_T_codeIn : ByteArray := prog_7_method_3_code
def y_T_codeIn : MethodName := ⟨"LimbRegisters$Text", "codeIn", "(JI)I"⟩
abbrev c_T_codeOf : ByteArray := prog_7_method_12_code
def y_T_codeOf : MethodName := ⟨"LimbRegisters$Text", "codeOf", "(I)I"⟩
abbrev c_T_digitOf : ByteArray := prog_7_method_11_code
def y_T_digitOf : MethodName := ⟨"LimbRegisters$Text", "digitOf", "(I)I"⟩
abbrev c_T_init : ByteArray := prog_7_method_1_code
def y_T_init : MethodName := ⟨"LimbRegisters$Text", "<init>", "()V"⟩
abbrev c_T_isNumeral : ByteArray := prog_7_method_7_code
def y_T_isNumeral : MethodName := ⟨"LimbRegisters$Text", "isNumeral", "(I)Z"⟩
abbrev c_T_readNumeral : ByteArray := prog_7_method_8_code
def y_T_readNumeral : MethodName := ⟨"LimbRegisters$Text", "readNumeral", "(LLimbRegisters$Whole;I)V"⟩
abbrev c_T_reverse : ByteArray := prog_7_method_10_code
def y_T_reverse : MethodName := ⟨"LimbRegisters$Text", "reverse", "()V"⟩
abbrev c_T_signs : ByteArray := prog_7_method_6_code
def y_T_signs : MethodName := ⟨"LimbRegisters$Text", "signs", "()I"⟩
abbrev c_T_writeNumeral : ByteArray := prog_7_method_9_code
def y_T_writeNumeral : MethodName := ⟨"LimbRegisters$Text", "writeNumeral", "(LLimbRegisters$Whole;I)V"⟩
abbrev c_W_init : ByteArray := prog_8_method_1_code
def y_W_init : MethodName := ⟨"LimbRegisters$Whole", "<init>", "()V"⟩
abbrev c_W_isOddAfter : ByteArray := prog_8_method_8_code
def y_W_isOddAfter : MethodName := ⟨"LimbRegisters$Whole", "isOddAfter", "(I)Z"⟩
abbrev c_W_order : ByteArray := prog_8_method_9_code
def y_W_order : MethodName := ⟨"LimbRegisters$Whole", "order", "(LLimbRegisters$Whole;)I"⟩
abbrev c_W_take : ByteArray := prog_8_method_2_code
def y_W_take : MethodName := ⟨"LimbRegisters$Whole", "take", "(LLimbRegisters$Natural;Z)V"⟩
abbrev c_W_takeLong : ByteArray := prog_8_method_3_code
def y_W_takeLong : MethodName := ⟨"LimbRegisters$Whole", "takeLong", "(J)V"⟩
abbrev c_W_takeLowered : ByteArray := prog_8_method_7_code
def y_W_takeLowered : MethodName := ⟨"LimbRegisters$Whole", "takeLowered", "(LLimbRegisters$Whole;I)V"⟩
abbrev c_W_takeProduct : ByteArray := prog_8_method_5_code
def y_W_takeProduct : MethodName := ⟨"LimbRegisters$Whole", "takeProduct", "(LLimbRegisters$Whole;LLimbRegisters$Whole;)V"⟩
abbrev c_W_takeRaised : ByteArray := prog_8_method_6_code
def y_W_takeRaised : MethodName := ⟨"LimbRegisters$Whole", "takeRaised", "(LLimbRegisters$Whole;I)V"⟩
abbrev c_W_takeSum : ByteArray := prog_8_method_4_code
def y_W_takeSum : MethodName := ⟨"LimbRegisters$Whole", "takeSum", "(LLimbRegisters$Whole;LLimbRegisters$Whole;Z)V"⟩
abbrev c_Y_add : ByteArray := method_5_code
def y_Y_add : MethodName := ⟨"LimbRegistersLaw", "add", "(LLimbRegisters;III)I"⟩
abbrev c_Y_bit : ByteArray := method_16_code
def y_Y_bit : MethodName := ⟨"LimbRegistersLaw", "bit", "(LLimbRegisters;II[J)I"⟩
abbrev c_Y_bits : ByteArray := method_15_code
def y_Y_bits : MethodName := ⟨"LimbRegistersLaw", "bits", "(LLimbRegisters;I[J)I"⟩
abbrev c_Y_character : ByteArray := method_21_code
def y_Y_character : MethodName := ⟨"LimbRegistersLaw", "character", "(LLimbRegisters;I[J)I"⟩
abbrev c_Y_compare : ByteArray := method_14_code
def y_Y_compare : MethodName := ⟨"LimbRegistersLaw", "compare", "(LLimbRegisters;II[J)I"⟩
abbrev c_Y_copy : ByteArray := method_4_code
def y_Y_copy : MethodName := ⟨"LimbRegistersLaw", "copy", "(LLimbRegisters;IIZ)I"⟩
abbrev c_Y_divide : ByteArray := method_8_code
def y_Y_divide : MethodName := ⟨"LimbRegistersLaw", "divide", "(LLimbRegisters;IIIIZ)I"⟩
abbrev c_Y_gcd : ByteArray := method_11_code
def y_Y_gcd : MethodName := ⟨"LimbRegistersLaw", "gcd", "(LLimbRegisters;III)I"⟩
abbrev c_Y_inverse : ByteArray := method_13_code
def y_Y_inverse : MethodName := ⟨"LimbRegistersLaw", "inverse", "(LLimbRegisters;III)I"⟩
abbrev c_Y_low : ByteArray := method_17_code
def y_Y_low : MethodName := ⟨"LimbRegistersLaw", "low", "(LLimbRegisters;I[J)I"⟩
abbrev c_Y_multiply : ByteArray := method_7_code
def y_Y_multiply : MethodName := ⟨"LimbRegistersLaw", "multiply", "(LLimbRegisters;III)I"⟩
abbrev c_Y_parse : ByteArray := method_19_code
def y_Y_parse : MethodName := ⟨"LimbRegistersLaw", "parse", "(LLimbRegisters;II[J)I"⟩
abbrev c_Y_power : ByteArray := method_12_code
def y_Y_power : MethodName := ⟨"LimbRegistersLaw", "power", "(LLimbRegisters;IIII)I"⟩
abbrev c_Y_print : ByteArray := method_20_code
def y_Y_print : MethodName := ⟨"LimbRegistersLaw", "print", "(LLimbRegisters;II[J)I"⟩
abbrev c_Y_root : ByteArray := method_10_code
def y_Y_root : MethodName := ⟨"LimbRegistersLaw", "root", "(LLimbRegisters;III)I"⟩
abbrev c_Y_set : ByteArray := method_3_code
def y_Y_set : MethodName := ⟨"LimbRegistersLaw", "set", "(LLimbRegisters;IJ)I"⟩
abbrev c_Y_shift : ByteArray := method_9_code
def y_Y_shift : MethodName := ⟨"LimbRegistersLaw", "shift", "(LLimbRegisters;III)I"⟩
abbrev c_Y_subtract : ByteArray := method_6_code
def y_Y_subtract : MethodName := ⟨"LimbRegistersLaw", "subtract", "(LLimbRegisters;III)I"⟩
abbrev c_Y_type : ByteArray := method_18_code
def y_Y_type : MethodName := ⟨"LimbRegistersLaw", "type", "(LLimbRegisters;JI[J)I"⟩
end
section
/-! the world: 97 cells at fixed places; addresses, classes and slots by T -/
abbrev wT : Type := (Nat → Nat) × (Nat → ClassId) × (Nat → Nat → Nat) × (Nat → ClassId)
def wa (T : wT) (k : Nat) : Nat := T.1 k
def wD (T : wT) : va_G := (T.2.1, T.2.2.1)
def wt (T : wT) : List (ClassId × FieldType) := [(T.2.2.2 0, .long), (T.2.2.2 1, .int), (T.2.2.2 2, .byte), (T.2.2.2 3, .object RX6)]
abbrev wFt : Type := Nat → Nat → Int64
abbrev wUt : Type := Nat → Int32
abbrev wIt : Type := Nat → Nat → Int32
abbrev wOt : Type := Nat → Int64
def wE (T : wT) (F : wFt) (U K : wUt) (I : wIt) (O : wOt) (k : Nat) : va_E :=
  if k < 34 then .inr (2, [.ref (wa T (34 + k)), .int (U k)])
  else if k < 68 then .inl (T.2.2.2 0, 75, .inr (.inl (F (k - 34))))
  else if k < 81 then .inr (6, [.ref (wa T (k - 68)), .int (K (k - 68))])
  else if k < 84 then .inr (0, [.ref (wa T (13 + 3 * (k - 81))), .ref (wa T (14 + 3 * (k - 81))), .ref (wa T (15 + 3 * (k - 81)))])
  else if k = 84 then .inr (7, [.ref (wa T 85), .ref (wa T 80), .ref (wa T 86), .ref (wa T 81), .ref (wa T 88), .ref (wa T 89), .ref (wa T 90)])
  else if k = 85 then .inl (T.2.2.2 3, 12, .inr (.inr (.inr (.inr (fun i => some (wa T (68 + i)))))))
  else if k = 86 then .inr (5, [.ref (wa T 87), .int (K 14)])
  else if k = 87 then .inl (T.2.2.2 2, 1200, .inl (I 0))
  else if k = 88 then .inr (4, [.ref (wa T 22), .ref (wa T 23), .ref (wa T 24), .ref (wa T 25)])
  else if k = 89 then .inr (3, [.ref (wa T 26), .ref (wa T 27), .ref (wa T 28), .ref (wa T 82)])
  else if k = 90 then .inr (1, [.ref (wa T 29), .ref (wa T 30), .int (K 13), .ref (wa T 31), .ref (wa T 32), .ref (wa T 33), .ref (wa T 83)])
  else if k = 91 then .inr (8, [.int (K 15), .ref (wa T 92), .ref (wa T 93), .ref (wa T 94), .int (K 16), .ref (wa T 95)])
  else if k = 92 then .inl (T.2.2.2 1, 2160, .inl (I 1))
  else if k = 93 then .inl (T.2.2.2 1, 20, .inl (I 2))
  else if k = 94 then .inl (T.2.2.2 1, 20, .inl (I 3))
  else if k = 95 then .inl (T.2.2.2 1, 1200, .inl (I 4))
  else .inl (T.2.2.2 0, 1, .inr (.inl O))
def wl (T : wT) (F : wFt) (U K : wUt) (I : wIt) (O : wOt) : va_W := (List.range 97).map (fun k => (wa T k, wE T F U K I O k))
def wA (T : wT) : Nat → Prop := fun q => ∃ k, k < 97 ∧ q = wa T k
def wX (T : wT) : Prop := ∀ i j, i < 97 → j < 97 → wa T i = wa T j → i = j
def wd (T : wT) (F : wFt) (U K : wUt) (I : wIt) (O : wOt) (t : State) : Prop := va_P (wD T) clS (wl T F U K I O) t.heap ∧ va_K (wD T) clS (wt T) t ∧ wX T
def wH (T : wT) (F : wFt) (U K : wUt) (I : wIt) (O : wOt) (A : Nat → Prop) (s : State) (H0 H : Heap) (locs : List Loc) : Prop :=
  va_P (wD T) clS (wl T F U K I O) H ∧ va_K (wD T) clS (wt T) s ∧ wX T ∧ va_S A H0 H locs ∧ ∀ k, k < 97 → A (wa T k)
theorem wl_at {T : wT} {F : wFt} {U K : wUt} {I : wIt} {O : wOt} {k : Nat} (hk : k < 97) : (wl T F U K I O)[k]? = some (wa T k, wE T F U K I O k) := by
  unfold wl; rw [List.getElem?_map, List.getElem?_range hk]; rfl
theorem wl_len {T : wT} {F : wFt} {U K : wUt} {I : wIt} {O : wOt} : (wl T F U K I O).length = 97 := by simp [wl]
theorem wl_inv {T : wT} {F : wFt} {U K : wUt} {I : wIt} {O : wOt} {k : Nat} {q : Nat × va_E} (h : (wl T F U K I O)[k]? = some q) : k < 97 ∧ q = (wa T k, wE T F U K I O k) := by
  have hk : k < 97 := by have := (List.getElem?_eq_some_iff.mp h).1; rw [wl_len] at this; exact this
  rw [wl_at hk] at h
  exact ⟨hk, (Option.some.inj h).symm⟩
theorem wl_D {T : wT} {F : wFt} {U K : wUt} {I : wIt} {O : wOt} {A : Nat → Prop} (hX : wX T) (hA : ∀ k, k < 97 → A (wa T k)) : va_D A (wl T F U K I O) := by
  refine ⟨fun i j p q h1 h2 h3 => ?_, fun k q h => ?_⟩
  · obtain ⟨a1, rfl⟩ := wl_inv h1
    obtain ⟨a2, rfl⟩ := wl_inv h2
    exact hX i j a1 a2 h3
  · obtain ⟨a1, rfl⟩ := wl_inv h
    exact hA k a1
theorem wl_set {T : wT} {F F' : wFt} {U K U' K' : wUt} {I I' : wIt} {O O' : wOt} {k : Nat} {en : va_E} (hk : k < 97) (h1 : wE T F' U' K' I' O' k = en) (h2 : ∀ j, j < 97 → j ≠ k → wE T F' U' K' I' O' j = wE T F U K I O j) : (wl T F U K I O).set k (wa T k, en) = wl T F' U' K' I' O' := by
  apply List.ext_getElem?
  intro j
  rw [List.getElem?_set]
  by_cases e : k = j
  · subst e
    rw [if_pos rfl, wl_len, if_pos hk, wl_at hk, h1]
  · rw [if_neg e]
    by_cases hj : j < 97
    · rw [wl_at hj, wl_at hj, h2 j hj (fun q => e q.symm)]
    · rw [List.getElem?_eq_none (by rw [wl_len]; omega), List.getElem?_eq_none (by rw [wl_len]; omega)]
end
section
/-! contracts over the world: they begin and end with it -/
def mP (T : wT) (F : wFt) (U K : wUt) (I : wIt) (O : wOt) (av : List Value) : Array Value → State → Prop := va_Pc av (fun t => wd T F U K I O t)
def mQv (T : wT) (F : wFt) (U K : wUt) (I : wIt) (O : wOt) : Array Value → State → Outcome → State → Prop := va_Qv (fun _ : Unit => True) (fun _ t => wd T F U K I O t) (wA T)
def mQi (T : wT) (r : Int32) (F : wFt) (U K : wUt) (I : wIt) (O : wOt) : Array Value → State → Outcome → State → Prop := va_Qi (fun x (_ : Unit) => x = r) (fun _ t => wd T F U K I O t) (wA T)
def mQl (T : wT) (r : Int64) (F : wFt) (U K : wUt) (I : wIt) (O : wOt) : Array Value → State → Outcome → State → Prop := va_Ql (fun x (_ : Unit) => x = r) (fun _ t => wd T F U K I O t) (wA T)
def wC (m : MethodId) (c : Code) (maxL : Nat) (s : State) (args : Array Value) (own : String) : Prop := c.maxLocals = maxL ∧ (∀ w ∈ bg, w.before args s = true) ∧ s.vm.findClass own = some m.cls
section EN
variable {p : Program} {l : Launch} {e : Env} {R : Room} {s : State} {m : MethodId} {args : Array Value} {below : List Frame} {meth : Method} {c : Code} {H H0 : Heap} {locs : List Loc} {cells slots : Nat} {Q : State → Prop}
variable {cc : ByteArray} {pc maxL : Nat} {ls : Array Slot} {rest : List Value} {T : wT} {F F' : wFt} {U K U' K' : wUt} {I I' : wIt} {O O' : wOt} {A : Nat → Prop} {own : String}
theorem wC.hts (h : wC m c maxL s args own) {w : Cond} (hw : w ∈ bg) : w.before args s = true := h.2.1 w hw
theorem wC.ow (h : wC m c maxL s args own) : s.vm.findClass own = some m.cls := h.2.2
theorem wA_in (T : wT) : ∀ k, k < 97 → wA T (wa T k) := fun k hk => ⟨k, hk, rfl⟩
theorem wH.start (h : wd T F U K I O s) : wH T F U K I O (wA T) s s.heap s.heap [] := ⟨h.1, h.2.1, h.2.2, va_S.rf, wA_in T⟩
theorem wH.stop {t : State} (h : wH T F U K I O A s H0 H locs) (ht : t.heap = H) (hW : s.vm.Alike t.vm) : wd T F U K I O t := ⟨by rw [ht]; exact h.1, va_K.moved hW h.2.1, h.2.2.1⟩
theorem wM_v {y : MethodName} (hpn : plainName y.cls = true) {rm : Room} {av : List Value} (hav : (lg_sl av).length ≤ maxL)
    (body : ∀ (p : Program) (e : Env) (R : Room) (s : State) (m : MethodId) (args : Array Value) (below : List Frame) (meth : Method) (c : Code) (Q : State → Prop) (ls : Array Slot), p.tables.exec = Jvm.exec → c.code = cc → wC m c maxL s args y.cls → rm.frames ≤ R.frames → rm.locals ≤ R.locals →
      (∀ (H : Heap) (locs : List Loc) (pc : Nat) (ls : Array Slot), wH T F' U' K' I' O' (wA T) s s.heap H locs → decode cc pc = .ok (.return_, 1) → W p l e R s m args below meth c H locs 0 0 Q (F0 m pc ls [])) →
      lv_has ls maxL (lv_args 0 av) → wH T F U K I O (wA T) s s.heap s.heap [] → W p l e R s m args below meth c s.heap [] 0 0 Q (F0 m 0 ls [])) :
    Met l y (.code y cc maxL none :: bg) rm (mP T F U K I O av) (mQv T F' U' K' I' O') 0 0 (wA T) := by
  refine Met.ofW (cc := cc) (maxL := maxL) (ret := none) hpn rfl ?_
  intro p e s m args below meth c s₁ B hml hv
  obtain ⟨rfl, hv⟩ := hv
  have hts := atoms_spec (ws := (.code y cc maxL none :: bg)) B.pre
  have hlocks := B.notSynchronized
  rw [lg_entry_eq]
  refine body p e _ s m _ below meth c _ _ B.exec B.bytes ⟨hml, fun w h => hts w (List.mem_cons_of_mem _ h), findClass_of_methodNamed B.named⟩ (Nat.le_refl _) (Nat.le_refl _) ?_ (lv_entry av hav) (wH.start hv)
  intro H locs pc ls hw hd
  exact W.vret B.exec B.bytes B.returns (fun t ht hW => ⟨⟨(), rfl, trivial, hw.stop ht hW.alike⟩, hw.2.2.2.1.F ht⟩) hw.2.2.2.1.2.2 hd hlocks
theorem wM_i {y : MethodName} (hpn : plainName y.cls = true) {rm : Room} {av : List Value} (hav : (lg_sl av).length ≤ maxL) {r : Int32}
    (body : ∀ (p : Program) (e : Env) (R : Room) (s : State) (m : MethodId) (args : Array Value) (below : List Frame) (meth : Method) (c : Code) (Q : State → Prop) (ls : Array Slot), p.tables.exec = Jvm.exec → c.code = cc → wC m c maxL s args y.cls → rm.frames ≤ R.frames → rm.locals ≤ R.locals →
      (∀ (H : Heap) (locs : List Loc) (pc : Nat) (ls : Array Slot), wH T F' U' K' I' O' (wA T) s s.heap H locs → decode cc pc = .ok (.ireturn, 1) → W p l e R s m args below meth c H locs 0 0 Q (F0 m pc ls [.int r])) →
      lv_has ls maxL (lv_args 0 av) → wH T F U K I O (wA T) s s.heap s.heap [] → W p l e R s m args below meth c s.heap [] 0 0 Q (F0 m 0 ls [])) :
    Met l y (.code y cc maxL (some .int) :: bg) rm (mP T F U K I O av) (mQi T r F' U' K' I' O') 0 0 (wA T) := by
  refine Met.ofW (cc := cc) (maxL := maxL) (ret := some .int) hpn rfl ?_
  intro p e s m args below meth c s₁ B hml hv
  obtain ⟨rfl, hv⟩ := hv
  have hts := atoms_spec (ws := (.code y cc maxL (some .int) :: bg)) B.pre
  have hlocks := B.notSynchronized
  rw [lg_entry_eq]
  refine body p e _ s m _ below meth c _ _ B.exec B.bytes ⟨hml, fun w h => hts w (List.mem_cons_of_mem _ h), findClass_of_methodNamed B.named⟩ (Nat.le_refl _) (Nat.le_refl _) ?_ (lv_entry av hav) (wH.start hv)
  intro H locs pc ls hw hd
  exact W.iret B.exec B.bytes B.returns (fun t ht hW => ⟨⟨r, (), rfl, rfl, hw.stop ht hW.alike⟩, hw.2.2.2.1.F ht⟩) hw.2.2.2.1.2.2 hd hlocks
theorem wM_z {y : MethodName} (hpn : plainName y.cls = true) {rm : Room} {av : List Value} (hav : (lg_sl av).length ≤ maxL) {r : Int32} (hr1 : narrow .boolean (.int r) = .int r)
    (body : ∀ (p : Program) (e : Env) (R : Room) (s : State) (m : MethodId) (args : Array Value) (below : List Frame) (meth : Method) (c : Code) (Q : State → Prop) (ls : Array Slot), p.tables.exec = Jvm.exec → c.code = cc → wC m c maxL s args y.cls → rm.frames ≤ R.frames → rm.locals ≤ R.locals →
      (∀ (H : Heap) (locs : List Loc) (pc : Nat) (ls : Array Slot), wH T F' U' K' I' O' (wA T) s s.heap H locs → decode cc pc = .ok (.ireturn, 1) → W p l e R s m args below meth c H locs 0 0 Q (F0 m pc ls [.int r])) →
      lv_has ls maxL (lv_args 0 av) → wH T F U K I O (wA T) s s.heap s.heap [] → W p l e R s m args below meth c s.heap [] 0 0 Q (F0 m 0 ls [])) :
    Met l y (.code y cc maxL (some .boolean) :: bg) rm (mP T F U K I O av) (mQi T r F' U' K' I' O') 0 0 (wA T) := by
  refine Met.ofW (cc := cc) (maxL := maxL) (ret := some .boolean) hpn rfl ?_
  intro p e s m args below meth c s₁ B hml hv
  obtain ⟨rfl, hv⟩ := hv
  have hts := atoms_spec (ws := (.code y cc maxL (some .boolean) :: bg)) B.pre
  have hlocks := B.notSynchronized
  rw [lg_entry_eq]
  refine body p e _ s m _ below meth c _ _ B.exec B.bytes ⟨hml, fun w h => hts w (List.mem_cons_of_mem _ h), findClass_of_methodNamed B.named⟩ (Nat.le_refl _) (Nat.le_refl _) ?_ (lv_entry av hav) (wH.start hv)
  intro H locs pc ls hw hd
  exact W.zret B.exec B.bytes B.returns hr1 (fun t ht hW => ⟨⟨r, (), rfl, rfl, hw.stop ht hW.alike⟩, hw.2.2.2.1.F ht⟩) hw.2.2.2.1.2.2 hd hlocks
theorem wM_l {y : MethodName} (hpn : plainName y.cls = true) {rm : Room} {av : List Value} (hav : (lg_sl av).length ≤ maxL) {r : Int64}
    (body : ∀ (p : Program) (e : Env) (R : Room) (s : State) (m : MethodId) (args : Array Value) (below : List Frame) (meth : Method) (c : Code) (Q : State → Prop) (ls : Array Slot), p.tables.exec = Jvm.exec → c.code = cc → wC m c maxL s args y.cls → rm.frames ≤ R.frames → rm.locals ≤ R.locals →
      (∀ (H : Heap) (locs : List Loc) (pc : Nat) (ls : Array Slot), wH T F' U' K' I' O' (wA T) s s.heap H locs → decode cc pc = .ok (.lreturn, 1) → W p l e R s m args below meth c H locs 0 0 Q (F0 m pc ls [.long r])) →
      lv_has ls maxL (lv_args 0 av) → wH T F U K I O (wA T) s s.heap s.heap [] → W p l e R s m args below meth c s.heap [] 0 0 Q (F0 m 0 ls [])) :
    Met l y (.code y cc maxL (some .long) :: bg) rm (mP T F U K I O av) (mQl T r F' U' K' I' O') 0 0 (wA T) := by
  refine Met.ofW (cc := cc) (maxL := maxL) (ret := some .long) hpn rfl ?_
  intro p e s m args below meth c s₁ B hml hv
  obtain ⟨rfl, hv⟩ := hv
  have hts := atoms_spec (ws := (.code y cc maxL (some .long) :: bg)) B.pre
  have hlocks := B.notSynchronized
  rw [lg_entry_eq]
  refine body p e _ s m _ below meth c _ _ B.exec B.bytes ⟨hml, fun w h => hts w (List.mem_cons_of_mem _ h), findClass_of_methodNamed B.named⟩ (Nat.le_refl _) (Nat.le_refl _) ?_ (lv_entry av hav) (wH.start hv)
  intro H locs pc ls hw hd
  exact W.lret B.exec B.bytes B.returns (fun t ht hW => ⟨⟨r, (), rfl, rfl, hw.stop ht hW.alike⟩, hw.2.2.2.1.F ht⟩) hw.2.2.2.1.2.2 hd hlocks
/-! calls -/
def wLk (own : String) (index : Nat) (y : MethodName) (bytes : ByteArray) (mL : Nat) (ret : Option FieldType) (n : Nat) : Prop :=
  Cond.code y bytes mL ret ∈ bg ∧ Cond.initialized y.cls ∈ bg ∧ (y.cls ≠ "java/lang/invoke/MethodHandle" ∧ y.cls ≠ "java/lang/invoke/VarHandle") ∧ (parseMethodDescriptor y.desc).map (fun d => d.parameters.length) = some n ∧ Cond.methodLink own index y ∈ bg
def wLv (own : String) (index : Nat) (y : MethodName) (bytes : ByteArray) (mL : Nat) (ret : Option FieldType) (n : Nat) : Prop :=
  wLk own index y bytes mL ret n ∧ Cond.instanceMethod y ∈ bg ∧ Cond.selects y.cls y y ∈ bg
def wLs (own : String) (index : Nat) (y : MethodName) (bytes : ByteArray) (mL : Nat) (ret : Option FieldType) (n : Nat) : Prop :=
  wLk own index y bytes mL ret n ∧ Cond.static y ∈ bg
variable {y : MethodName} {bytes : ByteArray} {mL n index : Nat} {ret : Option FieldType} {rm : Room}
theorem wc_good {w0 : Cond} (h : w0 ∈ bg) : GoodIn bg (w0 :: bg) := fun w hw => (List.mem_cons.mp hw).elim (fun q => by rw [q]; exact ⟨h, good_of_word (bg_good _ h)⟩) (fun q => ⟨q, good_of_word (bg_good _ q)⟩)
theorem wc_B (hC : wC m c maxL s args own) (h : wLk own index y bytes mL ret n) (hrc : rm.cells = 0) (hrs : rm.slots = 0) (hR : rm.frames + 1 ≤ R.frames ∧ 8 + (mL + 11) + rm.locals ≤ R.locals) : CallB R s args own index y bytes mL ret (.code y bytes mL ret :: bg) rm 0 0 n :=
  callB_of n hC.2.1 (wc_good h.1) rfl hrc hrs (hC.hts h.2.1) (hC.hts h.2.2.2.2) ⟨h.2.2.1.1, h.2.2.1.2, h.2.2.2.1⟩ hR
theorem mP_blind {av : List Value} : FrameBlind (mP T F U K I O av) := fun a V g mk q => ⟨q.1, q.2.1, va_K.moved (u := V) (U := V.calling g mk a) (Vm.Alike.refl V.vm) q.2.2.1, q.2.2.2⟩
theorem wH.pre {av : List Value} (hw : wH T F U K I O A s H0 H locs) : ∀ V : State, V.heap = H → s.WarmedH V.vm → mP T F U K I O av av.toArray V := fun V hV hW => ⟨rfl, hw.stop hV hW.alike⟩
theorem wH.recv {k ci : Nat} {fs : List Value} {C : String} {Tt : u_T} {N : Nat} (hw : wH T F U K I O A s H0 H locs) (hk : k < 97) (he : wE T F U K I O k = .inr (ci, fs)) (hc : clS[ci]? = some (C, Tt, N)) : ∃ cellB : Cell, H[wa T k]? = some cellB ∧ cellB.vm.isStatics = false ∧ s.vm.findClass C = some cellB.cls := by
  have h1 := hw.1 k _ (wl_at hk)
  rw [he] at h1
  obtain ⟨r, h2, cell, q1, q2, q3, q4⟩ := h1
  have hr : r = (C, Tt, N) := Option.some.inj (h2.symm.trans hc)
  subst hr
  obtain ⟨hS, hfc, kC, hkC, hkind⟩ := hw.2.1.1 ci _ hc
  exact ⟨cell, q1, by rw [q3]; rfl, by rw [q2]; exact hfc⟩
theorem wH.back {t : State} {H1 : Heap} {locs1 : List Loc} (hw : wH T F U K I O A s H0 H locs) (ht : t.heap = H1) (hvm : s.vm.Alike t.vm) (hB : wd T F' U' K' I' O' t) (hS : va_S A H0 H1 locs1) : wH T F' U' K' I' O' A s H0 H1 locs1 :=
  ⟨by rw [← ht]; exact hB.1, va_K.moved hvm.symm hB.2.1, hB.2.2, hS, hw.2.2.2.2⟩
theorem wA_sub (hw : wH T F U K I O A s H0 H locs) : ∀ q, wA T q → A q := fun q h => by obtain ⟨k, hk, rfl⟩ := h; exact hw.2.2.2.2 k hk
end EN
end
section
/-! calls over the world -/
section CL
variable {p : Program} {l : Launch} {e : Env} {R : Room} {s : State} {m : MethodId} {args : Array Value} {below : List Frame} {meth : Method} {c : Code} {H H0 : Heap} {locs : List Loc} {cells slots : Nat} {Q : State → Prop}
variable {cc : ByteArray} {pc maxL : Nat} {ls : Array Slot} {rest st0 As : List Value} {T : wT} {F F' : wFt} {U K U' K' : wUt} {I I' : wIt} {O O' : wOt} {A : Nat → Prop} {own : String}
variable {y : MethodName} {bytes : ByteArray} {mL n index k ci N : Nat} {fs : List Value} {Tt : u_T} {rm : Room}

theorem wcV_v (hx : p.tables.exec = Jvm.exec) (hb : c.code = cc) (hC : wC m c maxL s args own) (hw : wH T F U K I O A s H0 H locs)
    (hM : Met l y (.code y bytes mL none :: bg) rm (mP T F U K I O (.ref (wa T k) :: As)) (mQv T F' U' K' I' O') 0 0 (wA T)) (h : wLv own index y bytes mL none n) (hrc : rm.cells = 0) (hrs : rm.slots = 0) (hR : rm.frames + 1 ≤ R.frames ∧ 8 + (mL + 11) + rm.locals ≤ R.locals)
    (hk : k < 97) (he : wE T F U K I O k = .inr (ci, fs)) (hc : clS[ci]? = some (y.cls, Tt, N)) (hn : As.length = n) (hls : ls.size = maxL) (hst : st0 = As.reverse ++ .ref (wa T k) :: rest) (hW8 : (rest.map fun v => v.category).sum ≤ 8) (hf : cells ≤ R.cells ∧ slots ≤ R.slots) (hdg : decode cc pc = .ok (.invokevirtual index, 3))
    (kk : ∀ (H1 : Heap) (locs1 : List Loc), wH T F' U' K' I' O' A s H0 H1 locs1 → W p l e R s m args below meth c H1 locs1 cells slots Q (F0 m (pc + 3) ls (rest))) : W p l e R s m args below meth c H locs cells slots Q (F0 m pc ls st0) := by
  refine va_callv (va_runV (C := y.cls) (As := As) (rest := rest) ⟨hx, hb, hC.1, hC.2.2, hC.2.1⟩ hM ⟨wc_B hC h.1 hrc hrs hR, hC.hts h.2.1, hC.hts h.2.2⟩ ⟨mP_blind, hw.recv hk he hc, hw.pre⟩ rfl hn hls hst (lv_room hW8) hdg hf) hw.2.2.2.1 (fun q _ h => wA_sub hw q h) (wA_sub hw) (fun u t H1 locs1 ht hvm hp hB hz hk1 hS => ?_)
  exact kk H1 locs1 (hw.back ht hvm hB hS)
theorem wcS_v (hx : p.tables.exec = Jvm.exec) (hb : c.code = cc) (hC : wC m c maxL s args own) (hw : wH T F U K I O A s H0 H locs)
    (hM : Met l y (.code y bytes mL none :: bg) rm (mP T F U K I O As) (mQv T F' U' K' I' O') 0 0 (wA T)) (h : wLs own index y bytes mL none n) (hrc : rm.cells = 0) (hrs : rm.slots = 0) (hR : rm.frames + 1 ≤ R.frames ∧ 8 + (mL + 11) + rm.locals ≤ R.locals)
    (hn : As.length = n) (hls : ls.size = maxL) (hst : st0 = As.reverse ++ rest) (hW8 : (rest.map fun v => v.category).sum ≤ 8) (hf : cells ≤ R.cells ∧ slots ≤ R.slots) (hdg : decode cc pc = .ok (.invokestatic index, 3))
    (kk : ∀ (H1 : Heap) (locs1 : List Loc), wH T F' U' K' I' O' A s H0 H1 locs1 → W p l e R s m args below meth c H1 locs1 cells slots Q (F0 m (pc + 3) ls (rest))) : W p l e R s m args below meth c H locs cells slots Q (F0 m pc ls st0) := by
  refine va_callv (va_runS (As := As) (rest := rest) ⟨hx, hb, hC.1, hC.2.2, hC.2.1⟩ hM ⟨wc_B hC h.1 hrc hrs hR, hC.hts h.2⟩ ⟨mP_blind, hw.pre⟩ rfl hn hls hst (lv_room hW8) hdg hf) hw.2.2.2.1 (fun q _ h => wA_sub hw q h) (wA_sub hw) (fun u t H1 locs1 ht hvm hp hB hz hk1 hS => ?_)
  exact kk H1 locs1 (hw.back ht hvm hB hS)
theorem wcV_i {r : Int32} (hx : p.tables.exec = Jvm.exec) (hb : c.code = cc) (hC : wC m c maxL s args own) (hw : wH T F U K I O A s H0 H locs)
    (hM : Met l y (.code y bytes mL (some .int) :: bg) rm (mP T F U K I O (.ref (wa T k) :: As)) (mQi T r F' U' K' I' O') 0 0 (wA T)) (h : wLv own index y bytes mL (some .int) n) (hrc : rm.cells = 0) (hrs : rm.slots = 0) (hR : rm.frames + 1 ≤ R.frames ∧ 8 + (mL + 11) + rm.locals ≤ R.locals)
    (hk : k < 97) (he : wE T F U K I O k = .inr (ci, fs)) (hc : clS[ci]? = some (y.cls, Tt, N)) (hn : As.length = n) (hls : ls.size = maxL) (hst : st0 = As.reverse ++ .ref (wa T k) :: rest) (hW8 : (rest.map fun v => v.category).sum ≤ 8) (hf : cells ≤ R.cells ∧ slots ≤ R.slots) (hdg : decode cc pc = .ok (.invokevirtual index, 3))
    (kk : ∀ (H1 : Heap) (locs1 : List Loc), wH T F' U' K' I' O' A s H0 H1 locs1 → W p l e R s m args below meth c H1 locs1 cells slots Q (F0 m (pc + 3) ls (.int r :: rest))) : W p l e R s m args below meth c H locs cells slots Q (F0 m pc ls st0) := by
  refine va_calli (va_runV (C := y.cls) (As := As) (rest := rest) ⟨hx, hb, hC.1, hC.2.2, hC.2.1⟩ hM ⟨wc_B hC h.1 hrc hrs hR, hC.hts h.2.1, hC.hts h.2.2⟩ ⟨mP_blind, hw.recv hk he hc, hw.pre⟩ rfl hn hls hst (lv_room hW8) hdg hf) hw.2.2.2.1 (fun q _ h => wA_sub hw q h) (wA_sub hw) (fun r9 u t H1 locs1 ht hvm hp hB hz hk1 hS => ?_)
  subst hp
  exact kk H1 locs1 (hw.back ht hvm hB hS)
theorem wcS_i {r : Int32} (hx : p.tables.exec = Jvm.exec) (hb : c.code = cc) (hC : wC m c maxL s args own) (hw : wH T F U K I O A s H0 H locs)
    (hM : Met l y (.code y bytes mL (some .int) :: bg) rm (mP T F U K I O As) (mQi T r F' U' K' I' O') 0 0 (wA T)) (h : wLs own index y bytes mL (some .int) n) (hrc : rm.cells = 0) (hrs : rm.slots = 0) (hR : rm.frames + 1 ≤ R.frames ∧ 8 + (mL + 11) + rm.locals ≤ R.locals)
    (hn : As.length = n) (hls : ls.size = maxL) (hst : st0 = As.reverse ++ rest) (hW8 : (rest.map fun v => v.category).sum ≤ 8) (hf : cells ≤ R.cells ∧ slots ≤ R.slots) (hdg : decode cc pc = .ok (.invokestatic index, 3))
    (kk : ∀ (H1 : Heap) (locs1 : List Loc), wH T F' U' K' I' O' A s H0 H1 locs1 → W p l e R s m args below meth c H1 locs1 cells slots Q (F0 m (pc + 3) ls (.int r :: rest))) : W p l e R s m args below meth c H locs cells slots Q (F0 m pc ls st0) := by
  refine va_calli (va_runS (As := As) (rest := rest) ⟨hx, hb, hC.1, hC.2.2, hC.2.1⟩ hM ⟨wc_B hC h.1 hrc hrs hR, hC.hts h.2⟩ ⟨mP_blind, hw.pre⟩ rfl hn hls hst (lv_room hW8) hdg hf) hw.2.2.2.1 (fun q _ h => wA_sub hw q h) (wA_sub hw) (fun r9 u t H1 locs1 ht hvm hp hB hz hk1 hS => ?_)
  subst hp
  exact kk H1 locs1 (hw.back ht hvm hB hS)
theorem wcV_z {r : Int32} (hx : p.tables.exec = Jvm.exec) (hb : c.code = cc) (hC : wC m c maxL s args own) (hw : wH T F U K I O A s H0 H locs)
    (hM : Met l y (.code y bytes mL (some .boolean) :: bg) rm (mP T F U K I O (.ref (wa T k) :: As)) (mQi T r F' U' K' I' O') 0 0 (wA T)) (h : wLv own index y bytes mL (some .boolean) n) (hrc : rm.cells = 0) (hrs : rm.slots = 0) (hR : rm.frames + 1 ≤ R.frames ∧ 8 + (mL + 11) + rm.locals ≤ R.locals)
    (hk : k < 97) (he : wE T F U K I O k = .inr (ci, fs)) (hc : clS[ci]? = some (y.cls, Tt, N)) (hn : As.length = n) (hls : ls.size = maxL) (hst : st0 = As.reverse ++ .ref (wa T k) :: rest) (hW8 : (rest.map fun v => v.category).sum ≤ 8) (hf : cells ≤ R.cells ∧ slots ≤ R.slots) (hdg : decode cc pc = .ok (.invokevirtual index, 3))
    (kk : ∀ (H1 : Heap) (locs1 : List Loc), wH T F' U' K' I' O' A s H0 H1 locs1 → W p l e R s m args below meth c H1 locs1 cells slots Q (F0 m (pc + 3) ls (.int r :: rest))) : W p l e R s m args below meth c H locs cells slots Q (F0 m pc ls st0) := by
  refine va_calli (va_runV (C := y.cls) (As := As) (rest := rest) ⟨hx, hb, hC.1, hC.2.2, hC.2.1⟩ hM ⟨wc_B hC h.1 hrc hrs hR, hC.hts h.2.1, hC.hts h.2.2⟩ ⟨mP_blind, hw.recv hk he hc, hw.pre⟩ rfl hn hls hst (lv_room hW8) hdg hf) hw.2.2.2.1 (fun q _ h => wA_sub hw q h) (wA_sub hw) (fun r9 u t H1 locs1 ht hvm hp hB hz hk1 hS => ?_)
  subst hp
  exact kk H1 locs1 (hw.back ht hvm hB hS)
theorem wcS_z {r : Int32} (hx : p.tables.exec = Jvm.exec) (hb : c.code = cc) (hC : wC m c maxL s args own) (hw : wH T F U K I O A s H0 H locs)
    (hM : Met l y (.code y bytes mL (some .boolean) :: bg) rm (mP T F U K I O As) (mQi T r F' U' K' I' O') 0 0 (wA T)) (h : wLs own index y bytes mL (some .boolean) n) (hrc : rm.cells = 0) (hrs : rm.slots = 0) (hR : rm.frames + 1 ≤ R.frames ∧ 8 + (mL + 11) + rm.locals ≤ R.locals)
    (hn : As.length = n) (hls : ls.size = maxL) (hst : st0 = As.reverse ++ rest) (hW8 : (rest.map fun v => v.category).sum ≤ 8) (hf : cells ≤ R.cells ∧ slots ≤ R.slots) (hdg : decode cc pc = .ok (.invokestatic index, 3))
    (kk : ∀ (H1 : Heap) (locs1 : List Loc), wH T F' U' K' I' O' A s H0 H1 locs1 → W p l e R s m args below meth c H1 locs1 cells slots Q (F0 m (pc + 3) ls (.int r :: rest))) : W p l e R s m args below meth c H locs cells slots Q (F0 m pc ls st0) := by
  refine va_calli (va_runS (As := As) (rest := rest) ⟨hx, hb, hC.1, hC.2.2, hC.2.1⟩ hM ⟨wc_B hC h.1 hrc hrs hR, hC.hts h.2⟩ ⟨mP_blind, hw.pre⟩ rfl hn hls hst (lv_room hW8) hdg hf) hw.2.2.2.1 (fun q _ h => wA_sub hw q h) (wA_sub hw) (fun r9 u t H1 locs1 ht hvm hp hB hz hk1 hS => ?_)
  subst hp
  exact kk H1 locs1 (hw.back ht hvm hB hS)
theorem wcV_l {r : Int64} (hx : p.tables.exec = Jvm.exec) (hb : c.code = cc) (hC : wC m c maxL s args own) (hw : wH T F U K I O A s H0 H locs)
    (hM : Met l y (.code y bytes mL (some .long) :: bg) rm (mP T F U K I O (.ref (wa T k) :: As)) (mQl T r F' U' K' I' O') 0 0 (wA T)) (h : wLv own index y bytes mL (some .long) n) (hrc : rm.cells = 0) (hrs : rm.slots = 0) (hR : rm.frames + 1 ≤ R.frames ∧ 8 + (mL + 11) + rm.locals ≤ R.locals)
    (hk : k < 97) (he : wE T F U K I O k = .inr (ci, fs)) (hc : clS[ci]? = some (y.cls, Tt, N)) (hn : As.length = n) (hls : ls.size = maxL) (hst : st0 = As.reverse ++ .ref (wa T k) :: rest) (hW8 : (rest.map fun v => v.category).sum ≤ 8) (hf : cells ≤ R.cells ∧ slots ≤ R.slots) (hdg : decode cc pc = .ok (.invokevirtual index, 3))
    (kk : ∀ (H1 : Heap) (locs1 : List Loc), wH T F' U' K' I' O' A s H0 H1 locs1 → W p l e R s m args below meth c H1 locs1 cells slots Q (F0 m (pc + 3) ls (.long r :: rest))) : W p l e R s m args below meth c H locs cells slots Q (F0 m pc ls st0) := by
  refine va_calll (va_runV (C := y.cls) (As := As) (rest := rest) ⟨hx, hb, hC.1, hC.2.2, hC.2.1⟩ hM ⟨wc_B hC h.1 hrc hrs hR, hC.hts h.2.1, hC.hts h.2.2⟩ ⟨mP_blind, hw.recv hk he hc, hw.pre⟩ rfl hn hls hst (lv_room hW8) hdg hf) hw.2.2.2.1 (fun q _ h => wA_sub hw q h) (wA_sub hw) (fun r9 u t H1 locs1 ht hvm hp hB hz hk1 hS => ?_)
  subst hp
  exact kk H1 locs1 (hw.back ht hvm hB hS)
theorem wcS_l {r : Int64} (hx : p.tables.exec = Jvm.exec) (hb : c.code = cc) (hC : wC m c maxL s args own) (hw : wH T F U K I O A s H0 H locs)
    (hM : Met l y (.code y bytes mL (some .long) :: bg) rm (mP T F U K I O As) (mQl T r F' U' K' I' O') 0 0 (wA T)) (h : wLs own index y bytes mL (some .long) n) (hrc : rm.cells = 0) (hrs : rm.slots = 0) (hR : rm.frames + 1 ≤ R.frames ∧ 8 + (mL + 11) + rm.locals ≤ R.locals)
    (hn : As.length = n) (hls : ls.size = maxL) (hst : st0 = As.reverse ++ rest) (hW8 : (rest.map fun v => v.category).sum ≤ 8) (hf : cells ≤ R.cells ∧ slots ≤ R.slots) (hdg : decode cc pc = .ok (.invokestatic index, 3))
    (kk : ∀ (H1 : Heap) (locs1 : List Loc), wH T F' U' K' I' O' A s H0 H1 locs1 → W p l e R s m args below meth c H1 locs1 cells slots Q (F0 m (pc + 3) ls (.long r :: rest))) : W p l e R s m args below meth c H locs cells slots Q (F0 m pc ls st0) := by
  refine va_calll (va_runS (As := As) (rest := rest) ⟨hx, hb, hC.1, hC.2.2, hC.2.1⟩ hM ⟨wc_B hC h.1 hrc hrs hR, hC.hts h.2⟩ ⟨mP_blind, hw.pre⟩ rfl hn hls hst (lv_room hW8) hdg hf) hw.2.2.2.1 (fun q _ h => wA_sub hw q h) (wA_sub hw) (fun r9 u t H1 locs1 ht hvm hp hB hz hk1 hS => ?_)
  subst hp
  exact kk H1 locs1 (hw.back ht hvm hB hS)
end CL
end
section
/-! the world's cells, read and written -/
section CE
variable {p : Program} {l : Launch} {e : Env} {R : Room} {s : State} {m : MethodId} {args : Array Value} {below : List Frame} {meth : Method} {c : Code} {H H0 : Heap} {locs : List Loc} {cells slots : Nat} {Q : State → Prop}
variable {cc : ByteArray} {pc maxL index : Nat} {ls : Array Slot} {rest : List Value} {T : wT} {F F' : wFt} {U K U' K' : wUt} {I I' : wIt} {O O' : wOt} {A : Nat → Prop} {own : String}
theorem wE_cong {j : Nat} (hU : j < 34 → U' j = U j) (hF : 34 ≤ j → j < 68 → F' (j - 34) = F (j - 34)) (hK : 68 ≤ j → j < 81 → K' (j - 68) = K (j - 68)) (hK14 : j = 86 → K' 14 = K 14) (hI0 : j = 87 → I' 0 = I 0) (hK13 : j = 90 → K' 13 = K 13) (hKM : j = 91 → K' 15 = K 15 ∧ K' 16 = K 16) (hI1 : j = 92 → I' 1 = I 1) (hI2 : j = 93 → I' 2 = I 2) (hI3 : j = 94 → I' 3 = I 3) (hI4 : j = 95 → I' 4 = I 4) (hO : 96 ≤ j → O' = O) : wE T F' U' K' I' O' j = wE T F U K I O j := by
  unfold wE
  by_cases h0 : j < 34
  · rw [if_pos h0, if_pos h0, hU h0]
  rw [if_neg h0, if_neg h0]
  by_cases h1 : j < 68
  · rw [if_pos h1, if_pos h1, hF (by omega) h1]
  rw [if_neg h1, if_neg h1]
  by_cases h2 : j < 81
  · rw [if_pos h2, if_pos h2, hK (by omega) h2]
  rw [if_neg h2, if_neg h2]
  by_cases h3 : j < 84
  · rw [if_pos h3, if_pos h3]
  rw [if_neg h3, if_neg h3]
  by_cases h4 : j = 84
  · rw [if_pos h4, if_pos h4]
  rw [if_neg h4, if_neg h4]
  by_cases h5 : j = 85
  · rw [if_pos h5, if_pos h5]
  rw [if_neg h5, if_neg h5]
  by_cases h6 : j = 86
  · rw [if_pos h6, if_pos h6, hK14 h6]
  rw [if_neg h6, if_neg h6]
  by_cases h7 : j = 87
  · rw [if_pos h7, if_pos h7, hI0 h7]
  rw [if_neg h7, if_neg h7]
  by_cases h8 : j = 88
  · rw [if_pos h8, if_pos h8]
  rw [if_neg h8, if_neg h8]
  by_cases h9 : j = 89
  · rw [if_pos h9, if_pos h9]
  rw [if_neg h9, if_neg h9]
  by_cases h10 : j = 90
  · rw [if_pos h10, if_pos h10, hK13 h10]
  rw [if_neg h10, if_neg h10]
  by_cases h11 : j = 91
  · rw [if_pos h11, if_pos h11, (hKM h11).1, (hKM h11).2]
  rw [if_neg h11, if_neg h11]
  by_cases h12 : j = 92
  · rw [if_pos h12, if_pos h12, hI1 h12]
  rw [if_neg h12, if_neg h12]
  by_cases h13 : j = 93
  · rw [if_pos h13, if_pos h13, hI2 h13]
  rw [if_neg h13, if_neg h13]
  by_cases h14 : j = 94
  · rw [if_pos h14, if_pos h14, hI3 h14]
  rw [if_neg h14, if_neg h14]
  by_cases h15 : j = 95
  · rw [if_pos h15, if_pos h15, hI4 h15]
  rw [if_neg h15, if_neg h15]
  rw [hO (by omega)]
theorem wg {ref C : String} {Tt : u_T} {N ci k j : Nat} {fs : List Value} {v : Value} (hx : p.tables.exec = Jvm.exec) (hb : c.code = cc) (hC : wC m c maxL s args own) (hw : wH T F U K I O A s H0 H locs) (hk : k < 97) (he : wE T F U K I O k = .inr (ci, fs)) (hc : clS[ci]? = some (C, Tt, N)) (hin : ∀ w ∈ u_ws C Tt N, w ∈ bg) (hj : j < N) (hlk : Cond.fieldLink own index ref (Tt j).2.1 (Tt j).2.2.1 ∈ bg) (href : (Tt j).1 = ref) (hv : fs[j]? = some v) (hdg : decode cc pc = .ok (.getfield index, 3))
    (kk : W p l e R s m args below meth c H locs cells slots Q (F0 m (pc + 3) ls (v :: rest))) : W p l e R s m args below meth c H locs cells slots Q (F0 m pc ls (.ref (wa T k) :: rest)) := by
  subst href
  exact va_get (D := wD T) (ci := ci) (C := C) (T := Tt) (N := N) hx hb hC.2.1 hin hC.2.2 hw.2.1 hw.1 k (by rw [wl_at hk, he]) hc j hj (hC.hts hlk) (fun x h => h) hv hdg kk
theorem wp {ref C : String} {Tt : u_T} {N ci k j : Nat} {fs : List Value} {v : Value} {ty : FieldType} (ty0 : Nat → FieldType) (hty : ∀ k, k < N → parseFieldDescriptor (Tt k).2.2.1 = some (ty0 k)) (hnm : ∀ a, a < N → ∀ b, b < N → a ≠ b → (Tt a).2.1 ≠ (Tt b).2.1) (hx : p.tables.exec = Jvm.exec) (hb : c.code = cc) (hC : wC m c maxL s args own) (hw : wH T F U K I O A s H0 H locs) (hk : k < 97) (he : wE T F U K I O k = .inr (ci, fs)) (hc : clS[ci]? = some (C, Tt, N)) (hin : ∀ w ∈ u_ws C Tt N, w ∈ bg) (hj : j < N) (hlk : Cond.fieldLink own index ref (Tt j).2.1 (Tt j).2.2.1 ∈ bg) (href : (Tt j).1 = ref)
    (hfin : (Tt j).2.2.2 = false) (hd : parseFieldDescriptor (Tt j).2.2.1 = some ty) (hn : narrow ty v = v) (hfit : fits ty v = true) (hl : j < fs.length) (h1 : wE T F' U' K' I' O' k = .inr (ci, fs.set j v)) (h2 : ∀ i, i < 97 → i ≠ k → wE T F' U' K' I' O' i = wE T F U K I O i) (hdg : decode cc pc = .ok (.putfield index, 3))
    (kk : ∀ (H : Heap) (locs : List Loc), wH T F' U' K' I' O' A s H0 H locs → W p l e R s m args below meth c H locs cells slots Q (F0 m (pc + 3) ls rest)) : W p l e R s m args below meth c H locs cells slots Q (F0 m pc ls (v :: .ref (wa T k) :: rest)) := by
  subst href
  refine va_put (D := wD T) (ci := ci) (C := C) (T := Tt) (N := N) hx hb hC.2.1 hin ty0 hty hnm hC.2.2 hw.2.1 hw.1 (wl_D hw.2.2.1 hw.2.2.2.2) hw.2.2.2.1 k (by rw [wl_at hk, he]) hc j hj (hC.hts hlk) (fun x h => h) hfin hd hn hfit hl hdg (fun H1 locs1 hP hD hS => ?_)
  rw [wl_set hk h1 h2] at hP
  exact kk H1 locs1 ⟨hP, hw.2.1, hw.2.2.1, hS, hw.2.2.2.2⟩

theorem we_Natural {i : Nat} (hi : i < 34) : wE T F U K I O (i) = .inr (2, [.ref (wa T (34 + i)), .int (U i)]) := by unfold wE; rw [if_pos hi]
theorem wg_Natural_limbs {i : Nat} (hx : p.tables.exec = Jvm.exec) (hb : c.code = cc) (hC : wC m c maxL s args own) (hw : wH T F U K I O A s H0 H locs) (hi : i < 34) (hlk : Cond.fieldLink own index RX2 (TX2 0).2.1 (TX2 0).2.2.1 ∈ bg) (hdg : decode cc pc = .ok (.getfield index, 3)) (kk : W p l e R s m args below meth c H locs cells slots Q (F0 m (pc + 3) ls (.ref (wa T (34 + i)) :: rest))) : W p l e R s m args below meth c H locs cells slots Q (F0 m pc ls (.ref (wa T (i)) :: rest)) := wg (ci := 2) (C := RX2) (Tt := TX2) (N := 2) (j := 0) hx hb hC hw (by omega) (we_Natural hi) rfl in_c2 (by decide) hlk rfl rfl hdg kk
theorem wg_Natural_used {i : Nat} (hx : p.tables.exec = Jvm.exec) (hb : c.code = cc) (hC : wC m c maxL s args own) (hw : wH T F U K I O A s H0 H locs) (hi : i < 34) (hlk : Cond.fieldLink own index RX2 (TX2 1).2.1 (TX2 1).2.2.1 ∈ bg) (hdg : decode cc pc = .ok (.getfield index, 3)) (kk : W p l e R s m args below meth c H locs cells slots Q (F0 m (pc + 3) ls (.int (U i) :: rest))) : W p l e R s m args below meth c H locs cells slots Q (F0 m pc ls (.ref (wa T (i)) :: rest)) := wg (ci := 2) (C := RX2) (Tt := TX2) (N := 2) (j := 1) hx hb hC hw (by omega) (we_Natural hi) rfl in_c2 (by decide) hlk rfl rfl hdg kk
theorem wp_Natural_used {i : Nat} {x : Int32} (hx : p.tables.exec = Jvm.exec) (hb : c.code = cc) (hC : wC m c maxL s args own) (hw : wH T F U K I O A s H0 H locs) (hi : i < 34) (hlk : Cond.fieldLink own index RX2 (TX2 1).2.1 (TX2 1).2.2.1 ∈ bg) (hdg : decode cc pc = .ok (.putfield index, 3)) (kk : ∀ (H : Heap) (locs : List Loc), wH T F (va_up U i x) K I O A s H0 H locs → W p l e R s m args below meth c H locs cells slots Q (F0 m (pc + 3) ls rest)) : W p l e R s m args below meth c H locs cells slots Q (F0 m pc ls (.int x :: .ref (wa T (i)) :: rest)) := wp (ci := 2) (C := RX2) (Tt := TX2) (N := 2) (j := 1) (ty := .int) tyX2 tyX2_ok nmX2 hx hb hC hw (by omega) (we_Natural hi) rfl in_c2 (by decide) hlk rfl rfl rfl rfl rfl (Nat.le_of_ble_eq_true rfl) ((we_Natural hi).trans (by rw [va_up_self]; rfl)) (fun j9 hj9 hne => wE_cong (fun _ => va_up_ne _ _ (by omega)) (fun _ _ => rfl) (fun _ _ => rfl) (fun _ => rfl) (fun _ => rfl) (fun _ => rfl) (fun _ => ⟨rfl, rfl⟩) (fun _ => rfl) (fun _ => rfl) (fun _ => rfl) (fun _ => rfl) (fun _ => rfl)) hdg kk
theorem we_Whole {i : Nat} (hi : i < 13) : wE T F U K I O (68 + i) = .inr (6, [.ref (wa T i), .int (K i)]) := by unfold wE; rw [if_neg (by omega), if_neg (by omega), if_pos (by omega)]; simp only [Nat.add_sub_cancel_left]
theorem wg_Whole_size {i : Nat} (hx : p.tables.exec = Jvm.exec) (hb : c.code = cc) (hC : wC m c maxL s args own) (hw : wH T F U K I O A s H0 H locs) (hi : i < 13) (hlk : Cond.fieldLink own index RX6 (TX6 0).2.1 (TX6 0).2.2.1 ∈ bg) (hdg : decode cc pc = .ok (.getfield index, 3)) (kk : W p l e R s m args below meth c H locs cells slots Q (F0 m (pc + 3) ls (.ref (wa T i) :: rest))) : W p l e R s m args below meth c H locs cells slots Q (F0 m pc ls (.ref (wa T (68 + i)) :: rest)) := wg (ci := 6) (C := RX6) (Tt := TX6) (N := 2) (j := 0) hx hb hC hw (by omega) (we_Whole hi) rfl in_c6 (by decide) hlk rfl rfl hdg kk
theorem wg_Whole_below {i : Nat} (hx : p.tables.exec = Jvm.exec) (hb : c.code = cc) (hC : wC m c maxL s args own) (hw : wH T F U K I O A s H0 H locs) (hi : i < 13) (hlk : Cond.fieldLink own index RX6 (TX6 1).2.1 (TX6 1).2.2.1 ∈ bg) (hdg : decode cc pc = .ok (.getfield index, 3)) (kk : W p l e R s m args below meth c H locs cells slots Q (F0 m (pc + 3) ls (.int (K i) :: rest))) : W p l e R s m args below meth c H locs cells slots Q (F0 m pc ls (.ref (wa T (68 + i)) :: rest)) := wg (ci := 6) (C := RX6) (Tt := TX6) (N := 2) (j := 1) hx hb hC hw (by omega) (we_Whole hi) rfl in_c6 (by decide) hlk rfl rfl hdg kk
theorem wp_Whole_below {i : Nat} {x : Int32} (hx : p.tables.exec = Jvm.exec) (hb : c.code = cc) (hC : wC m c maxL s args own) (hw : wH T F U K I O A s H0 H locs) (hi : i < 13) (hx9 : narrow .boolean (.int x) = .int x) (hf9 : fits .boolean (.int x) = true) (hlk : Cond.fieldLink own index RX6 (TX6 1).2.1 (TX6 1).2.2.1 ∈ bg) (hdg : decode cc pc = .ok (.putfield index, 3)) (kk : ∀ (H : Heap) (locs : List Loc), wH T F U (va_up K i x) I O A s H0 H locs → W p l e R s m args below meth c H locs cells slots Q (F0 m (pc + 3) ls rest)) : W p l e R s m args below meth c H locs cells slots Q (F0 m pc ls (.int x :: .ref (wa T (68 + i)) :: rest)) := wp (ci := 6) (C := RX6) (Tt := TX6) (N := 2) (j := 1) (ty := .boolean) tyX6 tyX6_ok nmX6 hx hb hC hw (by omega) (we_Whole hi) rfl in_c6 (by decide) hlk rfl rfl rfl hx9 hf9 (Nat.le_of_ble_eq_true rfl) ((we_Whole hi).trans (by rw [va_up_self]; rfl)) (fun j9 hj9 hne => wE_cong (fun _ => rfl) (fun _ _ => rfl) (fun _ _ => va_up_ne _ _ (by omega)) (fun _ => va_up_ne _ _ (by omega)) (fun _ => rfl) (fun _ => va_up_ne _ _ (by omega)) (fun _ => ⟨va_up_ne _ _ (by omega), va_up_ne _ _ (by omega)⟩) (fun _ => rfl) (fun _ => rfl) (fun _ => rfl) (fun _ => rfl) (fun _ => rfl)) hdg kk
theorem we_Division {i : Nat} (hi : i < 3) : wE T F U K I O (81 + i) = .inr (0, [.ref (wa T (13 + 3 * i)), .ref (wa T (14 + 3 * i)), .ref (wa T (15 + 3 * i))]) := by unfold wE; rw [if_neg (by omega), if_neg (by omega), if_neg (by omega), if_pos (by omega)]; simp only [Nat.add_sub_cancel_left]
theorem wg_Division_quotient {i : Nat} (hx : p.tables.exec = Jvm.exec) (hb : c.code = cc) (hC : wC m c maxL s args own) (hw : wH T F U K I O A s H0 H locs) (hi : i < 3) (hlk : Cond.fieldLink own index RX0 (TX0 0).2.1 (TX0 0).2.2.1 ∈ bg) (hdg : decode cc pc = .ok (.getfield index, 3)) (kk : W p l e R s m args below meth c H locs cells slots Q (F0 m (pc + 3) ls (.ref (wa T (13 + 3 * i)) :: rest))) : W p l e R s m args below meth c H locs cells slots Q (F0 m pc ls (.ref (wa T (81 + i)) :: rest)) := wg (ci := 0) (C := RX0) (Tt := TX0) (N := 3) (j := 0) hx hb hC hw (by omega) (we_Division hi) rfl in_c0 (by decide) hlk rfl rfl hdg kk
theorem wg_Division_rest {i : Nat} (hx : p.tables.exec = Jvm.exec) (hb : c.code = cc) (hC : wC m c maxL s args own) (hw : wH T F U K I O A s H0 H locs) (hi : i < 3) (hlk : Cond.fieldLink own index RX0 (TX0 1).2.1 (TX0 1).2.2.1 ∈ bg) (hdg : decode cc pc = .ok (.getfield index, 3)) (kk : W p l e R s m args below meth c H locs cells slots Q (F0 m (pc + 3) ls (.ref (wa T (14 + 3 * i)) :: rest))) : W p l e R s m args below meth c H locs cells slots Q (F0 m pc ls (.ref (wa T (81 + i)) :: rest)) := wg (ci := 0) (C := RX0) (Tt := TX0) (N := 3) (j := 1) hx hb hC hw (by omega) (we_Division hi) rfl in_c0 (by decide) hlk rfl rfl hdg kk
theorem wg_Division_lifted {i : Nat} (hx : p.tables.exec = Jvm.exec) (hb : c.code = cc) (hC : wC m c maxL s args own) (hw : wH T F U K I O A s H0 H locs) (hi : i < 3) (hlk : Cond.fieldLink own index RX0 (TX0 2).2.1 (TX0 2).2.2.1 ∈ bg) (hdg : decode cc pc = .ok (.getfield index, 3)) (kk : W p l e R s m args below meth c H locs cells slots Q (F0 m (pc + 3) ls (.ref (wa T (15 + 3 * i)) :: rest))) : W p l e R s m args below meth c H locs cells slots Q (F0 m pc ls (.ref (wa T (81 + i)) :: rest)) := wg (ci := 0) (C := RX0) (Tt := TX0) (N := 3) (j := 2) hx hb hC hw (by omega) (we_Division hi) rfl in_c0 (by decide) hlk rfl rfl hdg kk
theorem we_Self : wE T F U K I O (84) = .inr (7, [.ref (wa T 85), .ref (wa T 80), .ref (wa T 86), .ref (wa T 81), .ref (wa T 88), .ref (wa T 89), .ref (wa T 90)]) := rfl
theorem wg_Self_registers (hx : p.tables.exec = Jvm.exec) (hb : c.code = cc) (hC : wC m c maxL s args own) (hw : wH T F U K I O A s H0 H locs) (hlk : Cond.fieldLink own index RX7 (TX7 0).2.1 (TX7 0).2.2.1 ∈ bg) (hdg : decode cc pc = .ok (.getfield index, 3)) (kk : W p l e R s m args below meth c H locs cells slots Q (F0 m (pc + 3) ls (.ref (wa T 85) :: rest))) : W p l e R s m args below meth c H locs cells slots Q (F0 m pc ls (.ref (wa T (84)) :: rest)) := wg (ci := 7) (C := RX7) (Tt := TX7) (N := 7) (j := 0) hx hb hC hw (by omega) (we_Self ) rfl in_c7 (by decide) hlk rfl rfl hdg kk
theorem wg_Self_answer (hx : p.tables.exec = Jvm.exec) (hb : c.code = cc) (hC : wC m c maxL s args own) (hw : wH T F U K I O A s H0 H locs) (hlk : Cond.fieldLink own index RX7 (TX7 1).2.1 (TX7 1).2.2.1 ∈ bg) (hdg : decode cc pc = .ok (.getfield index, 3)) (kk : W p l e R s m args below meth c H locs cells slots Q (F0 m (pc + 3) ls (.ref (wa T 80) :: rest))) : W p l e R s m args below meth c H locs cells slots Q (F0 m pc ls (.ref (wa T (84)) :: rest)) := wg (ci := 7) (C := RX7) (Tt := TX7) (N := 7) (j := 1) hx hb hC hw (by omega) (we_Self ) rfl in_c7 (by decide) hlk rfl rfl hdg kk
theorem wg_Self_text (hx : p.tables.exec = Jvm.exec) (hb : c.code = cc) (hC : wC m c maxL s args own) (hw : wH T F U K I O A s H0 H locs) (hlk : Cond.fieldLink own index RX7 (TX7 2).2.1 (TX7 2).2.2.1 ∈ bg) (hdg : decode cc pc = .ok (.getfield index, 3)) (kk : W p l e R s m args below meth c H locs cells slots Q (F0 m (pc + 3) ls (.ref (wa T 86) :: rest))) : W p l e R s m args below meth c H locs cells slots Q (F0 m pc ls (.ref (wa T (84)) :: rest)) := wg (ci := 7) (C := RX7) (Tt := TX7) (N := 7) (j := 2) hx hb hC hw (by omega) (we_Self ) rfl in_c7 (by decide) hlk rfl rfl hdg kk
theorem wg_Self_division (hx : p.tables.exec = Jvm.exec) (hb : c.code = cc) (hC : wC m c maxL s args own) (hw : wH T F U K I O A s H0 H locs) (hlk : Cond.fieldLink own index RX7 (TX7 3).2.1 (TX7 3).2.2.1 ∈ bg) (hdg : decode cc pc = .ok (.getfield index, 3)) (kk : W p l e R s m args below meth c H locs cells slots Q (F0 m (pc + 3) ls (.ref (wa T 81) :: rest))) : W p l e R s m args below meth c H locs cells slots Q (F0 m pc ls (.ref (wa T (84)) :: rest)) := wg (ci := 7) (C := RX7) (Tt := TX7) (N := 7) (j := 3) hx hb hC hw (by omega) (we_Self ) rfl in_c7 (by decide) hlk rfl rfl hdg kk
theorem wg_Self_roots (hx : p.tables.exec = Jvm.exec) (hb : c.code = cc) (hC : wC m c maxL s args own) (hw : wH T F U K I O A s H0 H locs) (hlk : Cond.fieldLink own index RX7 (TX7 4).2.1 (TX7 4).2.2.1 ∈ bg) (hdg : decode cc pc = .ok (.getfield index, 3)) (kk : W p l e R s m args below meth c H locs cells slots Q (F0 m (pc + 3) ls (.ref (wa T 88) :: rest))) : W p l e R s m args below meth c H locs cells slots Q (F0 m pc ls (.ref (wa T (84)) :: rest)) := wg (ci := 7) (C := RX7) (Tt := TX7) (N := 7) (j := 4) hx hb hC hw (by omega) (we_Self ) rfl in_c7 (by decide) hlk rfl rfl hdg kk
theorem wg_Self_residues (hx : p.tables.exec = Jvm.exec) (hb : c.code = cc) (hC : wC m c maxL s args own) (hw : wH T F U K I O A s H0 H locs) (hlk : Cond.fieldLink own index RX7 (TX7 5).2.1 (TX7 5).2.2.1 ∈ bg) (hdg : decode cc pc = .ok (.getfield index, 3)) (kk : W p l e R s m args below meth c H locs cells slots Q (F0 m (pc + 3) ls (.ref (wa T 89) :: rest))) : W p l e R s m args below meth c H locs cells slots Q (F0 m pc ls (.ref (wa T (84)) :: rest)) := wg (ci := 7) (C := RX7) (Tt := TX7) (N := 7) (j := 5) hx hb hC hw (by omega) (we_Self ) rfl in_c7 (by decide) hlk rfl rfl hdg kk
theorem wg_Self_euclid (hx : p.tables.exec = Jvm.exec) (hb : c.code = cc) (hC : wC m c maxL s args own) (hw : wH T F U K I O A s H0 H locs) (hlk : Cond.fieldLink own index RX7 (TX7 6).2.1 (TX7 6).2.2.1 ∈ bg) (hdg : decode cc pc = .ok (.getfield index, 3)) (kk : W p l e R s m args below meth c H locs cells slots Q (F0 m (pc + 3) ls (.ref (wa T 90) :: rest))) : W p l e R s m args below meth c H locs cells slots Q (F0 m pc ls (.ref (wa T (84)) :: rest)) := wg (ci := 7) (C := RX7) (Tt := TX7) (N := 7) (j := 6) hx hb hC hw (by omega) (we_Self ) rfl in_c7 (by decide) hlk rfl rfl hdg kk
theorem we_Text : wE T F U K I O (86) = .inr (5, [.ref (wa T 87), .int (K 14)]) := rfl
theorem wg_Text_codes (hx : p.tables.exec = Jvm.exec) (hb : c.code = cc) (hC : wC m c maxL s args own) (hw : wH T F U K I O A s H0 H locs) (hlk : Cond.fieldLink own index RX5 (TX5 0).2.1 (TX5 0).2.2.1 ∈ bg) (hdg : decode cc pc = .ok (.getfield index, 3)) (kk : W p l e R s m args below meth c H locs cells slots Q (F0 m (pc + 3) ls (.ref (wa T 87) :: rest))) : W p l e R s m args below meth c H locs cells slots Q (F0 m pc ls (.ref (wa T (86)) :: rest)) := wg (ci := 5) (C := RX5) (Tt := TX5) (N := 2) (j := 0) hx hb hC hw (by omega) (we_Text ) rfl in_c5 (by decide) hlk rfl rfl hdg kk
theorem wg_Text_count (hx : p.tables.exec = Jvm.exec) (hb : c.code = cc) (hC : wC m c maxL s args own) (hw : wH T F U K I O A s H0 H locs) (hlk : Cond.fieldLink own index RX5 (TX5 1).2.1 (TX5 1).2.2.1 ∈ bg) (hdg : decode cc pc = .ok (.getfield index, 3)) (kk : W p l e R s m args below meth c H locs cells slots Q (F0 m (pc + 3) ls (.int (K 14) :: rest))) : W p l e R s m args below meth c H locs cells slots Q (F0 m pc ls (.ref (wa T (86)) :: rest)) := wg (ci := 5) (C := RX5) (Tt := TX5) (N := 2) (j := 1) hx hb hC hw (by omega) (we_Text ) rfl in_c5 (by decide) hlk rfl rfl hdg kk
theorem wp_Text_count {x : Int32} (hx : p.tables.exec = Jvm.exec) (hb : c.code = cc) (hC : wC m c maxL s args own) (hw : wH T F U K I O A s H0 H locs) (hlk : Cond.fieldLink own index RX5 (TX5 1).2.1 (TX5 1).2.2.1 ∈ bg) (hdg : decode cc pc = .ok (.putfield index, 3)) (kk : ∀ (H : Heap) (locs : List Loc), wH T F U (va_up K 14 x) I O A s H0 H locs → W p l e R s m args below meth c H locs cells slots Q (F0 m (pc + 3) ls rest)) : W p l e R s m args below meth c H locs cells slots Q (F0 m pc ls (.int x :: .ref (wa T (86)) :: rest)) := wp (ci := 5) (C := RX5) (Tt := TX5) (N := 2) (j := 1) (ty := .int) tyX5 tyX5_ok nmX5 hx hb hC hw (by omega) (we_Text ) rfl in_c5 (by decide) hlk rfl rfl rfl rfl rfl (Nat.le_of_ble_eq_true rfl) ((we_Text ).trans (by rw [va_up_self]; rfl)) (fun j9 hj9 hne => wE_cong (fun _ => rfl) (fun _ _ => rfl) (fun _ _ => va_up_ne _ _ (by omega)) (fun h => absurd h hne) (fun _ => rfl) (fun _ => va_up_ne _ _ (by omega)) (fun _ => ⟨va_up_ne _ _ (by omega), va_up_ne _ _ (by omega)⟩) (fun _ => rfl) (fun _ => rfl) (fun _ => rfl) (fun _ => rfl) (fun _ => rfl)) hdg kk
theorem we_Roots : wE T F U K I O (88) = .inr (4, [.ref (wa T 22), .ref (wa T 23), .ref (wa T 24), .ref (wa T 25)]) := rfl
theorem wg_Roots_found (hx : p.tables.exec = Jvm.exec) (hb : c.code = cc) (hC : wC m c maxL s args own) (hw : wH T F U K I O A s H0 H locs) (hlk : Cond.fieldLink own index RX4 (TX4 0).2.1 (TX4 0).2.2.1 ∈ bg) (hdg : decode cc pc = .ok (.getfield index, 3)) (kk : W p l e R s m args below meth c H locs cells slots Q (F0 m (pc + 3) ls (.ref (wa T 22) :: rest))) : W p l e R s m args below meth c H locs cells slots Q (F0 m pc ls (.ref (wa T (88)) :: rest)) := wg (ci := 4) (C := RX4) (Tt := TX4) (N := 4) (j := 0) hx hb hC hw (by omega) (we_Roots ) rfl in_c4 (by decide) hlk rfl rfl hdg kk
theorem wg_Roots_trial (hx : p.tables.exec = Jvm.exec) (hb : c.code = cc) (hC : wC m c maxL s args own) (hw : wH T F U K I O A s H0 H locs) (hlk : Cond.fieldLink own index RX4 (TX4 1).2.1 (TX4 1).2.2.1 ∈ bg) (hdg : decode cc pc = .ok (.getfield index, 3)) (kk : W p l e R s m args below meth c H locs cells slots Q (F0 m (pc + 3) ls (.ref (wa T 23) :: rest))) : W p l e R s m args below meth c H locs cells slots Q (F0 m pc ls (.ref (wa T (88)) :: rest)) := wg (ci := 4) (C := RX4) (Tt := TX4) (N := 4) (j := 1) hx hb hC hw (by omega) (we_Roots ) rfl in_c4 (by decide) hlk rfl rfl hdg kk
theorem wg_Roots_reached (hx : p.tables.exec = Jvm.exec) (hb : c.code = cc) (hC : wC m c maxL s args own) (hw : wH T F U K I O A s H0 H locs) (hlk : Cond.fieldLink own index RX4 (TX4 2).2.1 (TX4 2).2.2.1 ∈ bg) (hdg : decode cc pc = .ok (.getfield index, 3)) (kk : W p l e R s m args below meth c H locs cells slots Q (F0 m (pc + 3) ls (.ref (wa T 24) :: rest))) : W p l e R s m args below meth c H locs cells slots Q (F0 m pc ls (.ref (wa T (88)) :: rest)) := wg (ci := 4) (C := RX4) (Tt := TX4) (N := 4) (j := 2) hx hb hC hw (by omega) (we_Roots ) rfl in_c4 (by decide) hlk rfl rfl hdg kk
theorem wg_Roots_product (hx : p.tables.exec = Jvm.exec) (hb : c.code = cc) (hC : wC m c maxL s args own) (hw : wH T F U K I O A s H0 H locs) (hlk : Cond.fieldLink own index RX4 (TX4 3).2.1 (TX4 3).2.2.1 ∈ bg) (hdg : decode cc pc = .ok (.getfield index, 3)) (kk : W p l e R s m args below meth c H locs cells slots Q (F0 m (pc + 3) ls (.ref (wa T 25) :: rest))) : W p l e R s m args below meth c H locs cells slots Q (F0 m pc ls (.ref (wa T (88)) :: rest)) := wg (ci := 4) (C := RX4) (Tt := TX4) (N := 4) (j := 3) hx hb hC hw (by omega) (we_Roots ) rfl in_c4 (by decide) hlk rfl rfl hdg kk
theorem we_Residues : wE T F U K I O (89) = .inr (3, [.ref (wa T 26), .ref (wa T 27), .ref (wa T 28), .ref (wa T 82)]) := rfl
theorem wg_Residues_found (hx : p.tables.exec = Jvm.exec) (hb : c.code = cc) (hC : wC m c maxL s args own) (hw : wH T F U K I O A s H0 H locs) (hlk : Cond.fieldLink own index RX3 (TX3 0).2.1 (TX3 0).2.2.1 ∈ bg) (hdg : decode cc pc = .ok (.getfield index, 3)) (kk : W p l e R s m args below meth c H locs cells slots Q (F0 m (pc + 3) ls (.ref (wa T 26) :: rest))) : W p l e R s m args below meth c H locs cells slots Q (F0 m pc ls (.ref (wa T (89)) :: rest)) := wg (ci := 3) (C := RX3) (Tt := TX3) (N := 4) (j := 0) hx hb hC hw (by omega) (we_Residues ) rfl in_c3 (by decide) hlk rfl rfl hdg kk
theorem wg_Residues_base (hx : p.tables.exec = Jvm.exec) (hb : c.code = cc) (hC : wC m c maxL s args own) (hw : wH T F U K I O A s H0 H locs) (hlk : Cond.fieldLink own index RX3 (TX3 1).2.1 (TX3 1).2.2.1 ∈ bg) (hdg : decode cc pc = .ok (.getfield index, 3)) (kk : W p l e R s m args below meth c H locs cells slots Q (F0 m (pc + 3) ls (.ref (wa T 27) :: rest))) : W p l e R s m args below meth c H locs cells slots Q (F0 m pc ls (.ref (wa T (89)) :: rest)) := wg (ci := 3) (C := RX3) (Tt := TX3) (N := 4) (j := 1) hx hb hC hw (by omega) (we_Residues ) rfl in_c3 (by decide) hlk rfl rfl hdg kk
theorem wg_Residues_product (hx : p.tables.exec = Jvm.exec) (hb : c.code = cc) (hC : wC m c maxL s args own) (hw : wH T F U K I O A s H0 H locs) (hlk : Cond.fieldLink own index RX3 (TX3 2).2.1 (TX3 2).2.2.1 ∈ bg) (hdg : decode cc pc = .ok (.getfield index, 3)) (kk : W p l e R s m args below meth c H locs cells slots Q (F0 m (pc + 3) ls (.ref (wa T 28) :: rest))) : W p l e R s m args below meth c H locs cells slots Q (F0 m pc ls (.ref (wa T (89)) :: rest)) := wg (ci := 3) (C := RX3) (Tt := TX3) (N := 4) (j := 2) hx hb hC hw (by omega) (we_Residues ) rfl in_c3 (by decide) hlk rfl rfl hdg kk
theorem wg_Residues_division (hx : p.tables.exec = Jvm.exec) (hb : c.code = cc) (hC : wC m c maxL s args own) (hw : wH T F U K I O A s H0 H locs) (hlk : Cond.fieldLink own index RX3 (TX3 3).2.1 (TX3 3).2.2.1 ∈ bg) (hdg : decode cc pc = .ok (.getfield index, 3)) (kk : W p l e R s m args below meth c H locs cells slots Q (F0 m (pc + 3) ls (.ref (wa T 82) :: rest))) : W p l e R s m args below meth c H locs cells slots Q (F0 m pc ls (.ref (wa T (89)) :: rest)) := wg (ci := 3) (C := RX3) (Tt := TX3) (N := 4) (j := 3) hx hb hC hw (by omega) (we_Residues ) rfl in_c3 (by decide) hlk rfl rfl hdg kk
theorem we_Euclid : wE T F U K I O (90) = .inr (1, [.ref (wa T 29), .ref (wa T 30), .int (K 13), .ref (wa T 31), .ref (wa T 32), .ref (wa T 33), .ref (wa T 83)]) := rfl
theorem wg_Euclid_divisor (hx : p.tables.exec = Jvm.exec) (hb : c.code = cc) (hC : wC m c maxL s args own) (hw : wH T F U K I O A s H0 H locs) (hlk : Cond.fieldLink own index RX1 (TX1 0).2.1 (TX1 0).2.2.1 ∈ bg) (hdg : decode cc pc = .ok (.getfield index, 3)) (kk : W p l e R s m args below meth c H locs cells slots Q (F0 m (pc + 3) ls (.ref (wa T 29) :: rest))) : W p l e R s m args below meth c H locs cells slots Q (F0 m pc ls (.ref (wa T (90)) :: rest)) := wg (ci := 1) (C := RX1) (Tt := TX1) (N := 7) (j := 0) hx hb hC hw (by omega) (we_Euclid ) rfl in_c1 (by decide) hlk rfl rfl hdg kk
theorem wg_Euclid_factor (hx : p.tables.exec = Jvm.exec) (hb : c.code = cc) (hC : wC m c maxL s args own) (hw : wH T F U K I O A s H0 H locs) (hlk : Cond.fieldLink own index RX1 (TX1 1).2.1 (TX1 1).2.2.1 ∈ bg) (hdg : decode cc pc = .ok (.getfield index, 3)) (kk : W p l e R s m args below meth c H locs cells slots Q (F0 m (pc + 3) ls (.ref (wa T 30) :: rest))) : W p l e R s m args below meth c H locs cells slots Q (F0 m pc ls (.ref (wa T (90)) :: rest)) := wg (ci := 1) (C := RX1) (Tt := TX1) (N := 7) (j := 1) hx hb hC hw (by omega) (we_Euclid ) rfl in_c1 (by decide) hlk rfl rfl hdg kk
theorem wg_Euclid_factorBelow (hx : p.tables.exec = Jvm.exec) (hb : c.code = cc) (hC : wC m c maxL s args own) (hw : wH T F U K I O A s H0 H locs) (hlk : Cond.fieldLink own index RX1 (TX1 2).2.1 (TX1 2).2.2.1 ∈ bg) (hdg : decode cc pc = .ok (.getfield index, 3)) (kk : W p l e R s m args below meth c H locs cells slots Q (F0 m (pc + 3) ls (.int (K 13) :: rest))) : W p l e R s m args below meth c H locs cells slots Q (F0 m pc ls (.ref (wa T (90)) :: rest)) := wg (ci := 1) (C := RX1) (Tt := TX1) (N := 7) (j := 2) hx hb hC hw (by omega) (we_Euclid ) rfl in_c1 (by decide) hlk rfl rfl hdg kk
theorem wp_Euclid_factorBelow {x : Int32} (hx : p.tables.exec = Jvm.exec) (hb : c.code = cc) (hC : wC m c maxL s args own) (hw : wH T F U K I O A s H0 H locs) (hx9 : narrow .boolean (.int x) = .int x) (hf9 : fits .boolean (.int x) = true) (hlk : Cond.fieldLink own index RX1 (TX1 2).2.1 (TX1 2).2.2.1 ∈ bg) (hdg : decode cc pc = .ok (.putfield index, 3)) (kk : ∀ (H : Heap) (locs : List Loc), wH T F U (va_up K 13 x) I O A s H0 H locs → W p l e R s m args below meth c H locs cells slots Q (F0 m (pc + 3) ls rest)) : W p l e R s m args below meth c H locs cells slots Q (F0 m pc ls (.int x :: .ref (wa T (90)) :: rest)) := wp (ci := 1) (C := RX1) (Tt := TX1) (N := 7) (j := 2) (ty := .boolean) tyX1 tyX1_ok nmX1 hx hb hC hw (by omega) (we_Euclid ) rfl in_c1 (by decide) hlk rfl rfl rfl hx9 hf9 (Nat.le_of_ble_eq_true rfl) ((we_Euclid ).trans (by rw [va_up_self]; rfl)) (fun j9 hj9 hne => wE_cong (fun _ => rfl) (fun _ _ => rfl) (fun _ _ => va_up_ne _ _ (by omega)) (fun _ => va_up_ne _ _ (by omega)) (fun _ => rfl) (fun h => absurd h hne) (fun _ => ⟨va_up_ne _ _ (by omega), va_up_ne _ _ (by omega)⟩) (fun _ => rfl) (fun _ => rfl) (fun _ => rfl) (fun _ => rfl) (fun _ => rfl)) hdg kk
theorem wg_Euclid_next (hx : p.tables.exec = Jvm.exec) (hb : c.code = cc) (hC : wC m c maxL s args own) (hw : wH T F U K I O A s H0 H locs) (hlk : Cond.fieldLink own index RX1 (TX1 3).2.1 (TX1 3).2.2.1 ∈ bg) (hdg : decode cc pc = .ok (.getfield index, 3)) (kk : W p l e R s m args below meth c H locs cells slots Q (F0 m (pc + 3) ls (.ref (wa T 31) :: rest))) : W p l e R s m args below meth c H locs cells slots Q (F0 m pc ls (.ref (wa T (90)) :: rest)) := wg (ci := 1) (C := RX1) (Tt := TX1) (N := 7) (j := 3) hx hb hC hw (by omega) (we_Euclid ) rfl in_c1 (by decide) hlk rfl rfl hdg kk
theorem wg_Euclid_nextFactor (hx : p.tables.exec = Jvm.exec) (hb : c.code = cc) (hC : wC m c maxL s args own) (hw : wH T F U K I O A s H0 H locs) (hlk : Cond.fieldLink own index RX1 (TX1 4).2.1 (TX1 4).2.2.1 ∈ bg) (hdg : decode cc pc = .ok (.getfield index, 3)) (kk : W p l e R s m args below meth c H locs cells slots Q (F0 m (pc + 3) ls (.ref (wa T 32) :: rest))) : W p l e R s m args below meth c H locs cells slots Q (F0 m pc ls (.ref (wa T (90)) :: rest)) := wg (ci := 1) (C := RX1) (Tt := TX1) (N := 7) (j := 4) hx hb hC hw (by omega) (we_Euclid ) rfl in_c1 (by decide) hlk rfl rfl hdg kk
theorem wg_Euclid_sum (hx : p.tables.exec = Jvm.exec) (hb : c.code = cc) (hC : wC m c maxL s args own) (hw : wH T F U K I O A s H0 H locs) (hlk : Cond.fieldLink own index RX1 (TX1 5).2.1 (TX1 5).2.2.1 ∈ bg) (hdg : decode cc pc = .ok (.getfield index, 3)) (kk : W p l e R s m args below meth c H locs cells slots Q (F0 m (pc + 3) ls (.ref (wa T 33) :: rest))) : W p l e R s m args below meth c H locs cells slots Q (F0 m pc ls (.ref (wa T (90)) :: rest)) := wg (ci := 1) (C := RX1) (Tt := TX1) (N := 7) (j := 5) hx hb hC hw (by omega) (we_Euclid ) rfl in_c1 (by decide) hlk rfl rfl hdg kk
theorem wg_Euclid_division (hx : p.tables.exec = Jvm.exec) (hb : c.code = cc) (hC : wC m c maxL s args own) (hw : wH T F U K I O A s H0 H locs) (hlk : Cond.fieldLink own index RX1 (TX1 6).2.1 (TX1 6).2.2.1 ∈ bg) (hdg : decode cc pc = .ok (.getfield index, 3)) (kk : W p l e R s m args below meth c H locs cells slots Q (F0 m (pc + 3) ls (.ref (wa T 83) :: rest))) : W p l e R s m args below meth c H locs cells slots Q (F0 m pc ls (.ref (wa T (90)) :: rest)) := wg (ci := 1) (C := RX1) (Tt := TX1) (N := 7) (j := 6) hx hb hC hw (by omega) (we_Euclid ) rfl in_c1 (by decide) hlk rfl rfl hdg kk
theorem we_Model : wE T F U K I O (91) = .inr (8, [.int (K 15), .ref (wa T 92), .ref (wa T 93), .ref (wa T 94), .int (K 16), .ref (wa T 95)]) := rfl
theorem wg_Model_code (hx : p.tables.exec = Jvm.exec) (hb : c.code = cc) (hC : wC m c maxL s args own) (hw : wH T F U K I O A s H0 H locs) (hlk : Cond.fieldLink own index "LimbRegistersModel" (TM 0).2.1 (TM 0).2.2.1 ∈ bg) (hdg : decode cc pc = .ok (.getfield index, 3)) (kk : W p l e R s m args below meth c H locs cells slots Q (F0 m (pc + 3) ls (.int (K 15) :: rest))) : W p l e R s m args below meth c H locs cells slots Q (F0 m pc ls (.ref (wa T (91)) :: rest)) := wg (ci := 8) (C := "LimbRegistersModel") (Tt := TM) (N := 6) (j := 0) hx hb hC hw (by omega) (we_Model ) rfl in_c8 (by decide) hlk rfl rfl hdg kk
theorem wp_Model_code {x : Int32} (hx : p.tables.exec = Jvm.exec) (hb : c.code = cc) (hC : wC m c maxL s args own) (hw : wH T F U K I O A s H0 H locs) (hlk : Cond.fieldLink own index "LimbRegistersModel" (TM 0).2.1 (TM 0).2.2.1 ∈ bg) (hdg : decode cc pc = .ok (.putfield index, 3)) (kk : ∀ (H : Heap) (locs : List Loc), wH T F U (va_up K 15 x) I O A s H0 H locs → W p l e R s m args below meth c H locs cells slots Q (F0 m (pc + 3) ls rest)) : W p l e R s m args below meth c H locs cells slots Q (F0 m pc ls (.int x :: .ref (wa T (91)) :: rest)) := wp (ci := 8) (C := "LimbRegistersModel") (Tt := TM) (N := 6) (j := 0) (ty := .int) tyM tyM_ok nmM hx hb hC hw (by omega) (we_Model ) rfl in_c8 (by decide) hlk rfl rfl rfl rfl rfl (Nat.le_of_ble_eq_true rfl) ((we_Model ).trans (by rw [va_up_self]; rfl)) (fun j9 hj9 hne => wE_cong (fun _ => rfl) (fun _ _ => rfl) (fun _ _ => va_up_ne _ _ (by omega)) (fun _ => va_up_ne _ _ (by omega)) (fun _ => rfl) (fun _ => va_up_ne _ _ (by omega)) (fun h => absurd h hne) (fun _ => rfl) (fun _ => rfl) (fun _ => rfl) (fun _ => rfl) (fun _ => rfl)) hdg kk
theorem wg_Model_d (hx : p.tables.exec = Jvm.exec) (hb : c.code = cc) (hC : wC m c maxL s args own) (hw : wH T F U K I O A s H0 H locs) (hlk : Cond.fieldLink own index "LimbRegistersModel" (TM 1).2.1 (TM 1).2.2.1 ∈ bg) (hdg : decode cc pc = .ok (.getfield index, 3)) (kk : W p l e R s m args below meth c H locs cells slots Q (F0 m (pc + 3) ls (.ref (wa T 92) :: rest))) : W p l e R s m args below meth c H locs cells slots Q (F0 m pc ls (.ref (wa T (91)) :: rest)) := wg (ci := 8) (C := "LimbRegistersModel") (Tt := TM) (N := 6) (j := 1) hx hb hC hw (by omega) (we_Model ) rfl in_c8 (by decide) hlk rfl rfl hdg kk
theorem wg_Model_size (hx : p.tables.exec = Jvm.exec) (hb : c.code = cc) (hC : wC m c maxL s args own) (hw : wH T F U K I O A s H0 H locs) (hlk : Cond.fieldLink own index "LimbRegistersModel" (TM 2).2.1 (TM 2).2.2.1 ∈ bg) (hdg : decode cc pc = .ok (.getfield index, 3)) (kk : W p l e R s m args below meth c H locs cells slots Q (F0 m (pc + 3) ls (.ref (wa T 93) :: rest))) : W p l e R s m args below meth c H locs cells slots Q (F0 m pc ls (.ref (wa T (91)) :: rest)) := wg (ci := 8) (C := "LimbRegistersModel") (Tt := TM) (N := 6) (j := 2) hx hb hC hw (by omega) (we_Model ) rfl in_c8 (by decide) hlk rfl rfl hdg kk
theorem wg_Model_sign (hx : p.tables.exec = Jvm.exec) (hb : c.code = cc) (hC : wC m c maxL s args own) (hw : wH T F U K I O A s H0 H locs) (hlk : Cond.fieldLink own index "LimbRegistersModel" (TM 3).2.1 (TM 3).2.2.1 ∈ bg) (hdg : decode cc pc = .ok (.getfield index, 3)) (kk : W p l e R s m args below meth c H locs cells slots Q (F0 m (pc + 3) ls (.ref (wa T 94) :: rest))) : W p l e R s m args below meth c H locs cells slots Q (F0 m pc ls (.ref (wa T (91)) :: rest)) := wg (ci := 8) (C := "LimbRegistersModel") (Tt := TM) (N := 6) (j := 3) hx hb hC hw (by omega) (we_Model ) rfl in_c8 (by decide) hlk rfl rfl hdg kk
theorem wg_Model_length (hx : p.tables.exec = Jvm.exec) (hb : c.code = cc) (hC : wC m c maxL s args own) (hw : wH T F U K I O A s H0 H locs) (hlk : Cond.fieldLink own index "LimbRegistersModel" (TM 4).2.1 (TM 4).2.2.1 ∈ bg) (hdg : decode cc pc = .ok (.getfield index, 3)) (kk : W p l e R s m args below meth c H locs cells slots Q (F0 m (pc + 3) ls (.int (K 16) :: rest))) : W p l e R s m args below meth c H locs cells slots Q (F0 m pc ls (.ref (wa T (91)) :: rest)) := wg (ci := 8) (C := "LimbRegistersModel") (Tt := TM) (N := 6) (j := 4) hx hb hC hw (by omega) (we_Model ) rfl in_c8 (by decide) hlk rfl rfl hdg kk
theorem wp_Model_length {x : Int32} (hx : p.tables.exec = Jvm.exec) (hb : c.code = cc) (hC : wC m c maxL s args own) (hw : wH T F U K I O A s H0 H locs) (hlk : Cond.fieldLink own index "LimbRegistersModel" (TM 4).2.1 (TM 4).2.2.1 ∈ bg) (hdg : decode cc pc = .ok (.putfield index, 3)) (kk : ∀ (H : Heap) (locs : List Loc), wH T F U (va_up K 16 x) I O A s H0 H locs → W p l e R s m args below meth c H locs cells slots Q (F0 m (pc + 3) ls rest)) : W p l e R s m args below meth c H locs cells slots Q (F0 m pc ls (.int x :: .ref (wa T (91)) :: rest)) := wp (ci := 8) (C := "LimbRegistersModel") (Tt := TM) (N := 6) (j := 4) (ty := .int) tyM tyM_ok nmM hx hb hC hw (by omega) (we_Model ) rfl in_c8 (by decide) hlk rfl rfl rfl rfl rfl (Nat.le_of_ble_eq_true rfl) ((we_Model ).trans (by rw [va_up_self]; rfl)) (fun j9 hj9 hne => wE_cong (fun _ => rfl) (fun _ _ => rfl) (fun _ _ => va_up_ne _ _ (by omega)) (fun _ => va_up_ne _ _ (by omega)) (fun _ => rfl) (fun _ => va_up_ne _ _ (by omega)) (fun h => absurd h hne) (fun _ => rfl) (fun _ => rfl) (fun _ => rfl) (fun _ => rfl) (fun _ => rfl)) hdg kk
theorem wg_Model_text (hx : p.tables.exec = Jvm.exec) (hb : c.code = cc) (hC : wC m c maxL s args own) (hw : wH T F U K I O A s H0 H locs) (hlk : Cond.fieldLink own index "LimbRegistersModel" (TM 5).2.1 (TM 5).2.2.1 ∈ bg) (hdg : decode cc pc = .ok (.getfield index, 3)) (kk : W p l e R s m args below meth c H locs cells slots Q (F0 m (pc + 3) ls (.ref (wa T 95) :: rest))) : W p l e R s m args below meth c H locs cells slots Q (F0 m pc ls (.ref (wa T (91)) :: rest)) := wg (ci := 8) (C := "LimbRegistersModel") (Tt := TM) (N := 6) (j := 5) hx hb hC hw (by omega) (we_Model ) rfl in_c8 (by decide) hlk rfl rfl hdg kk
theorem we_limbs {i : Nat} (hi : i < 34) : wE T F U K I O (34 + i) = .inl (T.2.2.2 0, 75, .inr (.inl (F i))) := by unfold wE; rw [if_neg (by omega), if_pos (by omega)]; simp only [Nat.add_sub_cancel_left]
theorem wl_limbs {i : Nat} {j : Nat} (hx : p.tables.exec = Jvm.exec) (hb : c.code = cc) (hw : wH T F U K I O A s H0 H locs) (hi : i < 34) (hj : j < 75) (hdg : decode cc pc = .ok (.laload, 1)) (kk : W p l e R s m args below meth c H locs cells slots Q (F0 m (pc + 1) ls (.long (F i j) :: rest))) : W p l e R s m args below meth c H locs cells slots Q (F0 m pc ls (.int (nI j) :: .ref (wa T (34 + i)) :: rest)) := by
  refine va_lald (D := wD T) hx hb hw.2.1 hw.1 (34 + i) 0 (by rw [wl_at (by omega), we_limbs hi]) rfl (vp_in_nI hj (by decide)) hdg ?_
  rw [nI_clamp (by omega)]
  exact kk
theorem ws_limbs {i : Nat} {j : Nat} {x : Int64} (hx : p.tables.exec = Jvm.exec) (hb : c.code = cc) (hw : wH T F U K I O A s H0 H locs) (hi : i < 34) (hj : j < 75) (hdg : decode cc pc = .ok (.lastore, 1)) (kk : ∀ (H : Heap) (locs : List Loc), wH T (va_up F i (vp_updL (F i) j x)) U K I O A s H0 H locs → W p l e R s m args below meth c H locs cells slots Q (F0 m (pc + 1) ls rest)) : W p l e R s m args below meth c H locs cells slots Q (F0 m pc ls (.long x :: .int (nI j) :: .ref (wa T (34 + i)) :: rest)) := by
  refine va_last (D := wD T) hx hb hw.2.1 hw.1 (wl_D hw.2.2.1 hw.2.2.2.2) hw.2.2.2.1 (34 + i) 0 (by rw [wl_at (by omega), we_limbs hi]) rfl (vp_in_nI hj (by decide)) hdg (fun H1 locs1 hP hD hS => ?_)
  rw [nI_clamp (by omega), wl_set (by omega) ((we_limbs hi).trans (by rw [va_up_self])) (fun j9 hj9 hne => wE_cong (fun _ => rfl) (fun _ _ => va_up_ne _ _ (by omega)) (fun _ _ => rfl) (fun _ => rfl) (fun _ => rfl) (fun _ => rfl) (fun _ => ⟨rfl, rfl⟩) (fun _ => rfl) (fun _ => rfl) (fun _ => rfl) (fun _ => rfl) (fun _ => rfl))] at hP
  exact kk H1 locs1 ⟨hP, hw.2.1, hw.2.2.1, hS, hw.2.2.2.2⟩
theorem we_codes : wE T F U K I O (87) = .inl (T.2.2.2 2, 1200, .inl (I 0)) := rfl
theorem wl_codes {j : Nat} (hx : p.tables.exec = Jvm.exec) (hb : c.code = cc) (hw : wH T F U K I O A s H0 H locs) (hj : j < 1200) (hdg : decode cc pc = .ok (.baload, 1)) (kk : W p l e R s m args below meth c H locs cells slots Q (F0 m (pc + 1) ls (.int (I 0 j) :: rest))) : W p l e R s m args below meth c H locs cells slots Q (F0 m pc ls (.int (nI j) :: .ref (wa T (87)) :: rest)) := by
  refine va_bald (D := wD T) hx hb hw.2.1 hw.1 (87) 2 (by rw [wl_at (by omega), we_codes ]) rfl (vp_in_nI hj (by decide)) hdg ?_
  rw [nI_clamp (by omega)]
  exact kk
theorem ws_codes {j : Nat} {x : Int32} (hx : p.tables.exec = Jvm.exec) (hb : c.code = cc) (hw : wH T F U K I O A s H0 H locs) (hj : j < 1200) (hdg : decode cc pc = .ok (.bastore, 1)) (kk : ∀ (H : Heap) (locs : List Loc), wH T F U K (va_up I 0 (upd (I 0) j x.toInt8.toInt32)) O A s H0 H locs → W p l e R s m args below meth c H locs cells slots Q (F0 m (pc + 1) ls rest)) : W p l e R s m args below meth c H locs cells slots Q (F0 m pc ls (.int x :: .int (nI j) :: .ref (wa T (87)) :: rest)) := by
  refine va_bast (D := wD T) hx hb hw.2.1 hw.1 (wl_D hw.2.2.1 hw.2.2.2.2) hw.2.2.2.1 (87) 2 (by rw [wl_at (by omega), we_codes ]) rfl (vp_in_nI hj (by decide)) hdg (fun H1 locs1 hP hD hS => ?_)
  rw [nI_clamp (by omega), wl_set (by omega) ((we_codes ).trans (by rw [va_up_self])) (fun j9 hj9 hne => wE_cong (fun _ => rfl) (fun _ _ => rfl) (fun _ _ => rfl) (fun _ => rfl) (fun h => absurd h hne) (fun _ => rfl) (fun _ => ⟨rfl, rfl⟩) (fun _ => va_up_ne _ _ (by omega)) (fun _ => va_up_ne _ _ (by omega)) (fun _ => va_up_ne _ _ (by omega)) (fun _ => va_up_ne _ _ (by omega)) (fun _ => rfl))] at hP
  exact kk H1 locs1 ⟨hP, hw.2.1, hw.2.2.1, hS, hw.2.2.2.2⟩
theorem we_md : wE T F U K I O (92) = .inl (T.2.2.2 1, 2160, .inl (I 1)) := rfl
theorem wl_md {j : Nat} (hx : p.tables.exec = Jvm.exec) (hb : c.code = cc) (hw : wH T F U K I O A s H0 H locs) (hj : j < 2160) (hdg : decode cc pc = .ok (.iaload, 1)) (kk : W p l e R s m args below meth c H locs cells slots Q (F0 m (pc + 1) ls (.int (I 1 j) :: rest))) : W p l e R s m args below meth c H locs cells slots Q (F0 m pc ls (.int (nI j) :: .ref (wa T (92)) :: rest)) := by
  refine va_iald (D := wD T) hx hb hw.2.1 hw.1 (92) 1 (by rw [wl_at (by omega), we_md ]) rfl (vp_in_nI hj (by decide)) hdg ?_
  rw [nI_clamp (by omega)]
  exact kk
theorem ws_md {j : Nat} {x : Int32} (hx : p.tables.exec = Jvm.exec) (hb : c.code = cc) (hw : wH T F U K I O A s H0 H locs) (hj : j < 2160) (hdg : decode cc pc = .ok (.iastore, 1)) (kk : ∀ (H : Heap) (locs : List Loc), wH T F U K (va_up I 1 (upd (I 1) j x)) O A s H0 H locs → W p l e R s m args below meth c H locs cells slots Q (F0 m (pc + 1) ls rest)) : W p l e R s m args below meth c H locs cells slots Q (F0 m pc ls (.int x :: .int (nI j) :: .ref (wa T (92)) :: rest)) := by
  refine va_iast (D := wD T) hx hb hw.2.1 hw.1 (wl_D hw.2.2.1 hw.2.2.2.2) hw.2.2.2.1 (92) 1 (by rw [wl_at (by omega), we_md ]) rfl (vp_in_nI hj (by decide)) hdg (fun H1 locs1 hP hD hS => ?_)
  rw [nI_clamp (by omega), wl_set (by omega) ((we_md ).trans (by rw [va_up_self])) (fun j9 hj9 hne => wE_cong (fun _ => rfl) (fun _ _ => rfl) (fun _ _ => rfl) (fun _ => rfl) (fun _ => va_up_ne _ _ (by omega)) (fun _ => rfl) (fun _ => ⟨rfl, rfl⟩) (fun h => absurd h hne) (fun _ => va_up_ne _ _ (by omega)) (fun _ => va_up_ne _ _ (by omega)) (fun _ => va_up_ne _ _ (by omega)) (fun _ => rfl))] at hP
  exact kk H1 locs1 ⟨hP, hw.2.1, hw.2.2.1, hS, hw.2.2.2.2⟩
theorem we_msize : wE T F U K I O (93) = .inl (T.2.2.2 1, 20, .inl (I 2)) := rfl
theorem wl_msize {j : Nat} (hx : p.tables.exec = Jvm.exec) (hb : c.code = cc) (hw : wH T F U K I O A s H0 H locs) (hj : j < 20) (hdg : decode cc pc = .ok (.iaload, 1)) (kk : W p l e R s m args below meth c H locs cells slots Q (F0 m (pc + 1) ls (.int (I 2 j) :: rest))) : W p l e R s m args below meth c H locs cells slots Q (F0 m pc ls (.int (nI j) :: .ref (wa T (93)) :: rest)) := by
  refine va_iald (D := wD T) hx hb hw.2.1 hw.1 (93) 1 (by rw [wl_at (by omega), we_msize ]) rfl (vp_in_nI hj (by decide)) hdg ?_
  rw [nI_clamp (by omega)]
  exact kk
theorem ws_msize {j : Nat} {x : Int32} (hx : p.tables.exec = Jvm.exec) (hb : c.code = cc) (hw : wH T F U K I O A s H0 H locs) (hj : j < 20) (hdg : decode cc pc = .ok (.iastore, 1)) (kk : ∀ (H : Heap) (locs : List Loc), wH T F U K (va_up I 2 (upd (I 2) j x)) O A s H0 H locs → W p l e R s m args below meth c H locs cells slots Q (F0 m (pc + 1) ls rest)) : W p l e R s m args below meth c H locs cells slots Q (F0 m pc ls (.int x :: .int (nI j) :: .ref (wa T (93)) :: rest)) := by
  refine va_iast (D := wD T) hx hb hw.2.1 hw.1 (wl_D hw.2.2.1 hw.2.2.2.2) hw.2.2.2.1 (93) 1 (by rw [wl_at (by omega), we_msize ]) rfl (vp_in_nI hj (by decide)) hdg (fun H1 locs1 hP hD hS => ?_)
  rw [nI_clamp (by omega), wl_set (by omega) ((we_msize ).trans (by rw [va_up_self])) (fun j9 hj9 hne => wE_cong (fun _ => rfl) (fun _ _ => rfl) (fun _ _ => rfl) (fun _ => rfl) (fun _ => va_up_ne _ _ (by omega)) (fun _ => rfl) (fun _ => ⟨rfl, rfl⟩) (fun _ => va_up_ne _ _ (by omega)) (fun h => absurd h hne) (fun _ => va_up_ne _ _ (by omega)) (fun _ => va_up_ne _ _ (by omega)) (fun _ => rfl))] at hP
  exact kk H1 locs1 ⟨hP, hw.2.1, hw.2.2.1, hS, hw.2.2.2.2⟩
theorem we_msign : wE T F U K I O (94) = .inl (T.2.2.2 1, 20, .inl (I 3)) := rfl
theorem wl_msign {j : Nat} (hx : p.tables.exec = Jvm.exec) (hb : c.code = cc) (hw : wH T F U K I O A s H0 H locs) (hj : j < 20) (hdg : decode cc pc = .ok (.iaload, 1)) (kk : W p l e R s m args below meth c H locs cells slots Q (F0 m (pc + 1) ls (.int (I 3 j) :: rest))) : W p l e R s m args below meth c H locs cells slots Q (F0 m pc ls (.int (nI j) :: .ref (wa T (94)) :: rest)) := by
  refine va_iald (D := wD T) hx hb hw.2.1 hw.1 (94) 1 (by rw [wl_at (by omega), we_msign ]) rfl (vp_in_nI hj (by decide)) hdg ?_
  rw [nI_clamp (by omega)]
  exact kk
theorem ws_msign {j : Nat} {x : Int32} (hx : p.tables.exec = Jvm.exec) (hb : c.code = cc) (hw : wH T F U K I O A s H0 H locs) (hj : j < 20) (hdg : decode cc pc = .ok (.iastore, 1)) (kk : ∀ (H : Heap) (locs : List Loc), wH T F U K (va_up I 3 (upd (I 3) j x)) O A s H0 H locs → W p l e R s m args below meth c H locs cells slots Q (F0 m (pc + 1) ls rest)) : W p l e R s m args below meth c H locs cells slots Q (F0 m pc ls (.int x :: .int (nI j) :: .ref (wa T (94)) :: rest)) := by
  refine va_iast (D := wD T) hx hb hw.2.1 hw.1 (wl_D hw.2.2.1 hw.2.2.2.2) hw.2.2.2.1 (94) 1 (by rw [wl_at (by omega), we_msign ]) rfl (vp_in_nI hj (by decide)) hdg (fun H1 locs1 hP hD hS => ?_)
  rw [nI_clamp (by omega), wl_set (by omega) ((we_msign ).trans (by rw [va_up_self])) (fun j9 hj9 hne => wE_cong (fun _ => rfl) (fun _ _ => rfl) (fun _ _ => rfl) (fun _ => rfl) (fun _ => va_up_ne _ _ (by omega)) (fun _ => rfl) (fun _ => ⟨rfl, rfl⟩) (fun _ => va_up_ne _ _ (by omega)) (fun _ => va_up_ne _ _ (by omega)) (fun h => absurd h hne) (fun _ => va_up_ne _ _ (by omega)) (fun _ => rfl))] at hP
  exact kk H1 locs1 ⟨hP, hw.2.1, hw.2.2.1, hS, hw.2.2.2.2⟩
theorem we_mtext : wE T F U K I O (95) = .inl (T.2.2.2 1, 1200, .inl (I 4)) := rfl
theorem wl_mtext {j : Nat} (hx : p.tables.exec = Jvm.exec) (hb : c.code = cc) (hw : wH T F U K I O A s H0 H locs) (hj : j < 1200) (hdg : decode cc pc = .ok (.iaload, 1)) (kk : W p l e R s m args below meth c H locs cells slots Q (F0 m (pc + 1) ls (.int (I 4 j) :: rest))) : W p l e R s m args below meth c H locs cells slots Q (F0 m pc ls (.int (nI j) :: .ref (wa T (95)) :: rest)) := by
  refine va_iald (D := wD T) hx hb hw.2.1 hw.1 (95) 1 (by rw [wl_at (by omega), we_mtext ]) rfl (vp_in_nI hj (by decide)) hdg ?_
  rw [nI_clamp (by omega)]
  exact kk
theorem ws_mtext {j : Nat} {x : Int32} (hx : p.tables.exec = Jvm.exec) (hb : c.code = cc) (hw : wH T F U K I O A s H0 H locs) (hj : j < 1200) (hdg : decode cc pc = .ok (.iastore, 1)) (kk : ∀ (H : Heap) (locs : List Loc), wH T F U K (va_up I 4 (upd (I 4) j x)) O A s H0 H locs → W p l e R s m args below meth c H locs cells slots Q (F0 m (pc + 1) ls rest)) : W p l e R s m args below meth c H locs cells slots Q (F0 m pc ls (.int x :: .int (nI j) :: .ref (wa T (95)) :: rest)) := by
  refine va_iast (D := wD T) hx hb hw.2.1 hw.1 (wl_D hw.2.2.1 hw.2.2.2.2) hw.2.2.2.1 (95) 1 (by rw [wl_at (by omega), we_mtext ]) rfl (vp_in_nI hj (by decide)) hdg (fun H1 locs1 hP hD hS => ?_)
  rw [nI_clamp (by omega), wl_set (by omega) ((we_mtext ).trans (by rw [va_up_self])) (fun j9 hj9 hne => wE_cong (fun _ => rfl) (fun _ _ => rfl) (fun _ _ => rfl) (fun _ => rfl) (fun _ => va_up_ne _ _ (by omega)) (fun _ => rfl) (fun _ => ⟨rfl, rfl⟩) (fun _ => va_up_ne _ _ (by omega)) (fun _ => va_up_ne _ _ (by omega)) (fun _ => va_up_ne _ _ (by omega)) (fun h => absurd h hne) (fun _ => rfl))] at hP
  exact kk H1 locs1 ⟨hP, hw.2.1, hw.2.2.1, hS, hw.2.2.2.2⟩
theorem we_out : wE T F U K I O (96) = .inl (T.2.2.2 0, 1, .inr (.inl O)) := rfl
theorem wl_out {j : Nat} (hx : p.tables.exec = Jvm.exec) (hb : c.code = cc) (hw : wH T F U K I O A s H0 H locs) (hj : j < 1) (hdg : decode cc pc = .ok (.laload, 1)) (kk : W p l e R s m args below meth c H locs cells slots Q (F0 m (pc + 1) ls (.long (O j) :: rest))) : W p l e R s m args below meth c H locs cells slots Q (F0 m pc ls (.int (nI j) :: .ref (wa T (96)) :: rest)) := by
  refine va_lald (D := wD T) hx hb hw.2.1 hw.1 (96) 0 (by rw [wl_at (by omega), we_out ]) rfl (vp_in_nI hj (by decide)) hdg ?_
  rw [nI_clamp (by omega)]
  exact kk
theorem ws_out {j : Nat} {x : Int64} (hx : p.tables.exec = Jvm.exec) (hb : c.code = cc) (hw : wH T F U K I O A s H0 H locs) (hj : j < 1) (hdg : decode cc pc = .ok (.lastore, 1)) (kk : ∀ (H : Heap) (locs : List Loc), wH T F U K I (vp_updL O j x) A s H0 H locs → W p l e R s m args below meth c H locs cells slots Q (F0 m (pc + 1) ls rest)) : W p l e R s m args below meth c H locs cells slots Q (F0 m pc ls (.long x :: .int (nI j) :: .ref (wa T (96)) :: rest)) := by
  refine va_last (D := wD T) hx hb hw.2.1 hw.1 (wl_D hw.2.2.1 hw.2.2.2.2) hw.2.2.2.1 (96) 0 (by rw [wl_at (by omega), we_out ]) rfl (vp_in_nI hj (by decide)) hdg (fun H1 locs1 hP hD hS => ?_)
  rw [nI_clamp (by omega), wl_set (by omega) (we_out (T := T) (F := F) (U := U) (K := K) (I := I) (O := vp_updL O j x)) (fun j9 hj9 hne => wE_cong (fun _ => rfl) (fun _ _ => rfl) (fun _ _ => rfl) (fun _ => rfl) (fun _ => rfl) (fun _ => rfl) (fun _ => ⟨rfl, rfl⟩) (fun _ => rfl) (fun _ => rfl) (fun _ => rfl) (fun _ => rfl) (fun h => absurd (show j9 = 96 by omega) hne))] at hP
  exact kk H1 locs1 ⟨hP, hw.2.1, hw.2.2.1, hS, hw.2.2.2.2⟩
theorem we_regs : wE T F U K I O (85) = .inl (T.2.2.2 3, 12, .inr (.inr (.inr (.inr (fun i => some (wa T (68 + i))))))) := rfl
theorem wl_regs {j : Nat} (hx : p.tables.exec = Jvm.exec) (hb : c.code = cc) (hw : wH T F U K I O A s H0 H locs) (hj : j < 12) (hdg : decode cc pc = .ok (.aaload, 1)) (kk : W p l e R s m args below meth c H locs cells slots Q (F0 m (pc + 1) ls (.ref (wa T (68 + j)) :: rest))) : W p l e R s m args below meth c H locs cells slots Q (F0 m pc ls (.int (nI j) :: .ref (wa T (85)) :: rest)) := by
  refine va_aldq (D := wD T) hx hb hw.2.1 hw.1 (85) 3 (by rw [wl_at (by omega), we_regs ]) rfl (vp_in_nI hj (by decide)) hdg ?_
  rw [nI_clamp (by omega)]
  exact kk
end CE
end
section
/-! where the words stand -/
theorem bw_0 : Jvm.Cond.initialized "LimbRegistersLaw" ∈ bg := bg_at 40 (by decide +kernel) (by decide +kernel)
theorem bw_1 : Jvm.Cond.initialized "LimbRegisters" ∈ bg := bg_at 41 (by decide +kernel) (by decide +kernel)
theorem bw_2 : Jvm.Cond.initialized "LimbRegisters$Whole" ∈ bg := bg_at 42 (by decide +kernel) (by decide +kernel)
theorem bw_3 : Jvm.Cond.initialized "LimbRegisters$Natural" ∈ bg := bg_at 43 (by decide +kernel) (by decide +kernel)
theorem bw_4 : Jvm.Cond.initialized "LimbRegisters$Text" ∈ bg := bg_at 44 (by decide +kernel) (by decide +kernel)
theorem bw_5 : Jvm.Cond.initialized "LimbRegisters$Division" ∈ bg := bg_at 45 (by decide +kernel) (by decide +kernel)
theorem bw_6 : Jvm.Cond.initialized "LimbRegisters$Roots" ∈ bg := bg_at 46 (by decide +kernel) (by decide +kernel)
theorem bw_7 : Jvm.Cond.initialized "LimbRegisters$Residues" ∈ bg := bg_at 47 (by decide +kernel) (by decide +kernel)
theorem bw_8 : Jvm.Cond.initialized "LimbRegisters$Euclid" ∈ bg := bg_at 48 (by decide +kernel) (by decide +kernel)
theorem bw_9 : Jvm.Cond.initialized "LimbRegistersModel" ∈ bg := bg_at 49 (by decide +kernel) (by decide +kernel)
theorem bw_10 : Jvm.Cond.initialized "java/lang/Throwable" ∈ bg := bg_at 50 (by decide +kernel) (by decide +kernel)
theorem bw_11 : Jvm.Cond.initialized "java/lang/Exception" ∈ bg := bg_at 51 (by decide +kernel) (by decide +kernel)
theorem bw_12 : Jvm.Cond.initialized "java/lang/RuntimeException" ∈ bg := bg_at 52 (by decide +kernel) (by decide +kernel)
theorem bw_13 : Jvm.Cond.initialized "java/lang/IndexOutOfBoundsException" ∈ bg := bg_at 53 (by decide +kernel) (by decide +kernel)
theorem bw_14 : Jvm.Cond.initialized "java/lang/Math" ∈ bg := bg_at 54 (by decide +kernel) (by decide +kernel)
theorem bw_15 : Jvm.Cond.initialized "java/lang/Long" ∈ bg := bg_at 55 (by decide +kernel) (by decide +kernel)
theorem bw_16 : Jvm.Cond.initialized "java/lang/Integer" ∈ bg := bg_at 56 (by decide +kernel) (by decide +kernel)
theorem bw_17 : Jvm.Cond.initialized "java/lang/UnsupportedOperationException" ∈ bg := bg_at 57 (by decide +kernel) (by decide +kernel)
theorem bw_18 : Jvm.Cond.initialized "java/lang/IllegalArgumentException" ∈ bg := bg_at 58 (by decide +kernel) (by decide +kernel)
theorem bw_19 : Jvm.Cond.initialized "java/lang/ArithmeticException" ∈ bg := bg_at 59 (by decide +kernel) (by decide +kernel)
theorem bw_20 : Jvm.Cond.initialized "java/util/NoSuchElementException" ∈ bg := bg_at 60 (by decide +kernel) (by decide +kernel)
theorem bw_21 : Jvm.Cond.initialized "java/lang/IllegalStateException" ∈ bg := bg_at 61 (by decide +kernel) (by decide +kernel)
theorem bw_22 : Jvm.Cond.classLink "LimbRegistersLaw" 8 "LimbRegisters" ∈ bg := bg_at 62 (by decide +kernel) (by decide +kernel)
theorem bw_23 : Jvm.Cond.instantiable "LimbRegisters" 7 ∈ bg := bg_at 63 (by decide +kernel) (by decide +kernel)
theorem bw_30 : Jvm.Cond.classLink "LimbRegisters" 9 "LimbRegisters$Whole" ∈ bg := bg_at 70 (by decide +kernel) (by decide +kernel)
theorem bw_32 : Jvm.Cond.instantiable "LimbRegisters$Whole" 2 ∈ bg := bg_at 72 (by decide +kernel) (by decide +kernel)
theorem bw_37 : Jvm.Cond.classLink "LimbRegisters$Whole" 7 "LimbRegisters$Natural" ∈ bg := bg_at 77 (by decide +kernel) (by decide +kernel)
theorem bw_38 : Jvm.Cond.instantiable "LimbRegisters$Natural" 2 ∈ bg := bg_at 78 (by decide +kernel) (by decide +kernel)
theorem bw_43 : Jvm.Cond.fieldLink "LimbRegisters$Natural" 9 "LimbRegisters$Natural" "limbs" "[J" ∈ bg := bg_at 83 (by decide +kernel) (by decide +kernel)
theorem bw_44 : Jvm.Cond.fieldLink "LimbRegisters$Division" 51 "LimbRegisters$Natural" "limbs" "[J" ∈ bg := bg_at 84 (by decide +kernel) (by decide +kernel)
theorem bw_45 : Jvm.Cond.fieldLink "LimbRegisters$Natural" 15 "LimbRegisters$Natural" "used" "I" ∈ bg := bg_at 85 (by decide +kernel) (by decide +kernel)
theorem bw_46 : Jvm.Cond.fieldLink "LimbRegisters$Division" 47 "LimbRegisters$Natural" "used" "I" ∈ bg := bg_at 86 (by decide +kernel) (by decide +kernel)
theorem bw_52 : Jvm.Cond.arrayClass Jvm.ClassFile.FieldType.long ∈ bg := bg_at 92 (by decide +kernel) (by decide +kernel)
theorem bw_53 : Jvm.Cond.fieldLink "LimbRegisters$Whole" 10 "LimbRegisters$Whole" "size" "LLimbRegisters$Natural;" ∈ bg := bg_at 93 (by decide +kernel) (by decide +kernel)
theorem bw_54 : Jvm.Cond.fieldLink "LimbRegisters$Residues" 29 "LimbRegisters$Whole" "size" "LLimbRegisters$Natural;" ∈ bg := bg_at 94 (by decide +kernel) (by decide +kernel)
theorem bw_55 : Jvm.Cond.fieldLink "LimbRegisters" 63 "LimbRegisters$Whole" "size" "LLimbRegisters$Natural;" ∈ bg := bg_at 95 (by decide +kernel) (by decide +kernel)
theorem bw_56 : Jvm.Cond.fieldLink "LimbRegisters$Text" 41 "LimbRegisters$Whole" "size" "LLimbRegisters$Natural;" ∈ bg := bg_at 96 (by decide +kernel) (by decide +kernel)
theorem bw_57 : Jvm.Cond.fieldLink "LimbRegisters$Whole" 16 "LimbRegisters$Whole" "below" "Z" ∈ bg := bg_at 97 (by decide +kernel) (by decide +kernel)
theorem bw_58 : Jvm.Cond.fieldLink "LimbRegisters$Residues" 45 "LimbRegisters$Whole" "below" "Z" ∈ bg := bg_at 98 (by decide +kernel) (by decide +kernel)
theorem bw_59 : Jvm.Cond.fieldLink "LimbRegisters" 67 "LimbRegisters$Whole" "below" "Z" ∈ bg := bg_at 99 (by decide +kernel) (by decide +kernel)
theorem bw_60 : Jvm.Cond.fieldLink "LimbRegisters$Text" 58 "LimbRegisters$Whole" "below" "Z" ∈ bg := bg_at 100 (by decide +kernel) (by decide +kernel)
theorem bw_66 : Jvm.Cond.classLink "LimbRegisters" 20 "LimbRegisters$Text" ∈ bg := bg_at 106 (by decide +kernel) (by decide +kernel)
theorem bw_67 : Jvm.Cond.instantiable "LimbRegisters$Text" 2 ∈ bg := bg_at 107 (by decide +kernel) (by decide +kernel)
theorem bw_72 : Jvm.Cond.fieldLink "LimbRegisters$Text" 11 "LimbRegisters$Text" "codes" "[B" ∈ bg := bg_at 112 (by decide +kernel) (by decide +kernel)
theorem bw_73 : Jvm.Cond.fieldLink "LimbRegisters" 239 "LimbRegisters$Text" "codes" "[B" ∈ bg := bg_at 113 (by decide +kernel) (by decide +kernel)
theorem bw_74 : Jvm.Cond.fieldLink "LimbRegisters$Text" 15 "LimbRegisters$Text" "count" "I" ∈ bg := bg_at 114 (by decide +kernel) (by decide +kernel)
theorem bw_75 : Jvm.Cond.fieldLink "LimbRegisters" 207 "LimbRegisters$Text" "count" "I" ∈ bg := bg_at 115 (by decide +kernel) (by decide +kernel)
theorem bw_81 : Jvm.Cond.arrayClass Jvm.ClassFile.FieldType.byte ∈ bg := bg_at 121 (by decide +kernel) (by decide +kernel)
theorem bw_82 : Jvm.Cond.classLink "LimbRegisters" 27 "LimbRegisters$Division" ∈ bg := bg_at 122 (by decide +kernel) (by decide +kernel)
theorem bw_83 : Jvm.Cond.instantiable "LimbRegisters$Division" 3 ∈ bg := bg_at 123 (by decide +kernel) (by decide +kernel)
theorem bw_88 : Jvm.Cond.classLink "LimbRegisters$Division" 9 "LimbRegisters$Natural" ∈ bg := bg_at 128 (by decide +kernel) (by decide +kernel)
theorem bw_90 : Jvm.Cond.fieldLink "LimbRegisters$Division" 12 "LimbRegisters$Division" "quotient" "LLimbRegisters$Natural;" ∈ bg := bg_at 130 (by decide +kernel) (by decide +kernel)
theorem bw_91 : Jvm.Cond.fieldLink "LimbRegisters$Euclid" 61 "LimbRegisters$Division" "quotient" "LLimbRegisters$Natural;" ∈ bg := bg_at 131 (by decide +kernel) (by decide +kernel)
theorem bw_92 : Jvm.Cond.fieldLink "LimbRegisters" 115 "LimbRegisters$Division" "quotient" "LLimbRegisters$Natural;" ∈ bg := bg_at 132 (by decide +kernel) (by decide +kernel)
theorem bw_93 : Jvm.Cond.fieldLink "LimbRegisters$Division" 18 "LimbRegisters$Division" "rest" "LLimbRegisters$Natural;" ∈ bg := bg_at 133 (by decide +kernel) (by decide +kernel)
theorem bw_94 : Jvm.Cond.fieldLink "LimbRegisters$Residues" 38 "LimbRegisters$Division" "rest" "LLimbRegisters$Natural;" ∈ bg := bg_at 134 (by decide +kernel) (by decide +kernel)
theorem bw_95 : Jvm.Cond.fieldLink "LimbRegisters$Euclid" 58 "LimbRegisters$Division" "rest" "LLimbRegisters$Natural;" ∈ bg := bg_at 135 (by decide +kernel) (by decide +kernel)
theorem bw_96 : Jvm.Cond.fieldLink "LimbRegisters" 108 "LimbRegisters$Division" "rest" "LLimbRegisters$Natural;" ∈ bg := bg_at 136 (by decide +kernel) (by decide +kernel)
theorem bw_97 : Jvm.Cond.fieldLink "LimbRegisters$Division" 21 "LimbRegisters$Division" "lifted" "LLimbRegisters$Natural;" ∈ bg := bg_at 137 (by decide +kernel) (by decide +kernel)
theorem bw_105 : Jvm.Cond.classLink "LimbRegisters" 34 "LimbRegisters$Roots" ∈ bg := bg_at 145 (by decide +kernel) (by decide +kernel)
theorem bw_106 : Jvm.Cond.instantiable "LimbRegisters$Roots" 4 ∈ bg := bg_at 146 (by decide +kernel) (by decide +kernel)
theorem bw_111 : Jvm.Cond.classLink "LimbRegisters$Roots" 7 "LimbRegisters$Natural" ∈ bg := bg_at 151 (by decide +kernel) (by decide +kernel)
theorem bw_113 : Jvm.Cond.fieldLink "LimbRegisters$Roots" 10 "LimbRegisters$Roots" "found" "LLimbRegisters$Natural;" ∈ bg := bg_at 153 (by decide +kernel) (by decide +kernel)
theorem bw_114 : Jvm.Cond.fieldLink "LimbRegisters" 147 "LimbRegisters$Roots" "found" "LLimbRegisters$Natural;" ∈ bg := bg_at 154 (by decide +kernel) (by decide +kernel)
theorem bw_115 : Jvm.Cond.fieldLink "LimbRegisters$Roots" 16 "LimbRegisters$Roots" "trial" "LLimbRegisters$Natural;" ∈ bg := bg_at 155 (by decide +kernel) (by decide +kernel)
theorem bw_116 : Jvm.Cond.fieldLink "LimbRegisters$Roots" 19 "LimbRegisters$Roots" "reached" "LLimbRegisters$Natural;" ∈ bg := bg_at 156 (by decide +kernel) (by decide +kernel)
theorem bw_117 : Jvm.Cond.fieldLink "LimbRegisters$Roots" 22 "LimbRegisters$Roots" "product" "LLimbRegisters$Natural;" ∈ bg := bg_at 157 (by decide +kernel) (by decide +kernel)
theorem bw_127 : Jvm.Cond.classLink "LimbRegisters" 41 "LimbRegisters$Residues" ∈ bg := bg_at 167 (by decide +kernel) (by decide +kernel)
theorem bw_128 : Jvm.Cond.instantiable "LimbRegisters$Residues" 4 ∈ bg := bg_at 168 (by decide +kernel) (by decide +kernel)
theorem bw_133 : Jvm.Cond.classLink "LimbRegisters$Residues" 7 "LimbRegisters$Natural" ∈ bg := bg_at 173 (by decide +kernel) (by decide +kernel)
theorem bw_135 : Jvm.Cond.classLink "LimbRegisters$Residues" 22 "LimbRegisters$Division" ∈ bg := bg_at 175 (by decide +kernel) (by decide +kernel)
theorem bw_137 : Jvm.Cond.fieldLink "LimbRegisters$Residues" 10 "LimbRegisters$Residues" "found" "LLimbRegisters$Natural;" ∈ bg := bg_at 177 (by decide +kernel) (by decide +kernel)
theorem bw_138 : Jvm.Cond.fieldLink "LimbRegisters" 163 "LimbRegisters$Residues" "found" "LLimbRegisters$Natural;" ∈ bg := bg_at 178 (by decide +kernel) (by decide +kernel)
theorem bw_139 : Jvm.Cond.fieldLink "LimbRegisters$Residues" 16 "LimbRegisters$Residues" "base" "LLimbRegisters$Natural;" ∈ bg := bg_at 179 (by decide +kernel) (by decide +kernel)
theorem bw_140 : Jvm.Cond.fieldLink "LimbRegisters$Residues" 19 "LimbRegisters$Residues" "product" "LLimbRegisters$Natural;" ∈ bg := bg_at 180 (by decide +kernel) (by decide +kernel)
theorem bw_141 : Jvm.Cond.fieldLink "LimbRegisters$Residues" 25 "LimbRegisters$Residues" "division" "LLimbRegisters$Division;" ∈ bg := bg_at 181 (by decide +kernel) (by decide +kernel)
theorem bw_151 : Jvm.Cond.classLink "LimbRegisters" 48 "LimbRegisters$Euclid" ∈ bg := bg_at 191 (by decide +kernel) (by decide +kernel)
theorem bw_152 : Jvm.Cond.instantiable "LimbRegisters$Euclid" 7 ∈ bg := bg_at 192 (by decide +kernel) (by decide +kernel)
theorem bw_157 : Jvm.Cond.classLink "LimbRegisters$Euclid" 7 "LimbRegisters$Natural" ∈ bg := bg_at 197 (by decide +kernel) (by decide +kernel)
theorem bw_159 : Jvm.Cond.classLink "LimbRegisters$Euclid" 32 "LimbRegisters$Division" ∈ bg := bg_at 199 (by decide +kernel) (by decide +kernel)
theorem bw_161 : Jvm.Cond.fieldLink "LimbRegisters$Euclid" 10 "LimbRegisters$Euclid" "divisor" "LLimbRegisters$Natural;" ∈ bg := bg_at 201 (by decide +kernel) (by decide +kernel)
theorem bw_162 : Jvm.Cond.fieldLink "LimbRegisters" 151 "LimbRegisters$Euclid" "divisor" "LLimbRegisters$Natural;" ∈ bg := bg_at 202 (by decide +kernel) (by decide +kernel)
theorem bw_163 : Jvm.Cond.fieldLink "LimbRegisters$Euclid" 16 "LimbRegisters$Euclid" "factor" "LLimbRegisters$Natural;" ∈ bg := bg_at 203 (by decide +kernel) (by decide +kernel)
theorem bw_164 : Jvm.Cond.fieldLink "LimbRegisters" 179 "LimbRegisters$Euclid" "factor" "LLimbRegisters$Natural;" ∈ bg := bg_at 204 (by decide +kernel) (by decide +kernel)
theorem bw_165 : Jvm.Cond.fieldLink "LimbRegisters$Euclid" 19 "LimbRegisters$Euclid" "factorBelow" "Z" ∈ bg := bg_at 205 (by decide +kernel) (by decide +kernel)
theorem bw_166 : Jvm.Cond.fieldLink "LimbRegisters$Euclid" 23 "LimbRegisters$Euclid" "next" "LLimbRegisters$Natural;" ∈ bg := bg_at 206 (by decide +kernel) (by decide +kernel)
theorem bw_167 : Jvm.Cond.fieldLink "LimbRegisters$Euclid" 26 "LimbRegisters$Euclid" "nextFactor" "LLimbRegisters$Natural;" ∈ bg := bg_at 207 (by decide +kernel) (by decide +kernel)
theorem bw_168 : Jvm.Cond.fieldLink "LimbRegisters$Euclid" 29 "LimbRegisters$Euclid" "sum" "LLimbRegisters$Natural;" ∈ bg := bg_at 208 (by decide +kernel) (by decide +kernel)
theorem bw_169 : Jvm.Cond.fieldLink "LimbRegisters$Euclid" 35 "LimbRegisters$Euclid" "division" "LLimbRegisters$Division;" ∈ bg := bg_at 209 (by decide +kernel) (by decide +kernel)
theorem bw_185 : Jvm.Cond.fieldLink "LimbRegisters" 11 "LimbRegisters" "registers" "[LLimbRegisters$Whole;" ∈ bg := bg_at 225 (by decide +kernel) (by decide +kernel)
theorem bw_186 : Jvm.Cond.fieldLink "LimbRegisters" 16 "LimbRegisters" "answer" "LLimbRegisters$Whole;" ∈ bg := bg_at 226 (by decide +kernel) (by decide +kernel)
theorem bw_187 : Jvm.Cond.fieldLink "LimbRegisters" 23 "LimbRegisters" "text" "LLimbRegisters$Text;" ∈ bg := bg_at 227 (by decide +kernel) (by decide +kernel)
theorem bw_188 : Jvm.Cond.fieldLink "LimbRegisters" 30 "LimbRegisters" "division" "LLimbRegisters$Division;" ∈ bg := bg_at 228 (by decide +kernel) (by decide +kernel)
theorem bw_189 : Jvm.Cond.fieldLink "LimbRegisters" 37 "LimbRegisters" "roots" "LLimbRegisters$Roots;" ∈ bg := bg_at 229 (by decide +kernel) (by decide +kernel)
theorem bw_190 : Jvm.Cond.fieldLink "LimbRegisters" 44 "LimbRegisters" "residues" "LLimbRegisters$Residues;" ∈ bg := bg_at 230 (by decide +kernel) (by decide +kernel)
theorem bw_191 : Jvm.Cond.fieldLink "LimbRegisters" 51 "LimbRegisters" "euclid" "LLimbRegisters$Euclid;" ∈ bg := bg_at 231 (by decide +kernel) (by decide +kernel)
theorem bw_214 : Jvm.Cond.classLink "LimbRegistersLaw" 13 "java/lang/IndexOutOfBoundsException" ∈ bg := bg_at 254 (by decide +kernel) (by decide +kernel)
theorem bw_222 : Jvm.Cond.classLink "LimbRegisters" 186 "java/lang/IndexOutOfBoundsException" ∈ bg := bg_at 262 (by decide +kernel) (by decide +kernel)
theorem bw_223 : Jvm.Cond.instantiable "java/lang/IndexOutOfBoundsException" 6 ∈ bg := bg_at 263 (by decide +kernel) (by decide +kernel)
theorem bw_243 : Jvm.Cond.fieldLink "java/lang/Throwable" 198 "java/lang/Throwable" "backtrace" "Ljava/lang/Object;" ∈ bg := bg_at 283 (by decide +kernel) (by decide +kernel)
theorem bw_248 : Jvm.Cond.fieldLink "java/lang/Throwable" 13 "java/lang/Throwable" "UNASSIGNED_STACK" "[Ljava/lang/StackTraceElement;" ∈ bg := bg_at 288 (by decide +kernel) (by decide +kernel)
theorem bw_250 : Jvm.Cond.fieldLink "java/lang/Throwable" 20 "java/lang/Throwable" "SUPPRESSED_SENTINEL" "Ljava/util/List;" ∈ bg := bg_at 290 (by decide +kernel) (by decide +kernel)
theorem bw_264 : Jvm.Cond.instantiable "java/lang/Throwable" 6 ∈ bg := bg_at 304 (by decide +kernel) (by decide +kernel)
theorem bw_279 : Jvm.Cond.fieldLink "java/lang/Throwable" 198 "java/lang/Throwable" "backtrace" "Ljava/lang/Object;" ∈ bg := bg_at 319 (by decide +kernel) (by decide +kernel)
theorem bw_280 : Jvm.Cond.fieldLink "java/lang/Throwable" 31 "java/lang/Throwable" "detailMessage" "Ljava/lang/String;" ∈ bg := bg_at 320 (by decide +kernel) (by decide +kernel)
theorem bw_281 : Jvm.Cond.fieldLink "java/lang/Throwable" 7 "java/lang/Throwable" "cause" "Ljava/lang/Throwable;" ∈ bg := bg_at 321 (by decide +kernel) (by decide +kernel)
theorem bw_282 : Jvm.Cond.fieldLink "java/lang/Throwable" 17 "java/lang/Throwable" "stackTrace" "[Ljava/lang/StackTraceElement;" ∈ bg := bg_at 322 (by decide +kernel) (by decide +kernel)
theorem bw_283 : Jvm.Cond.fieldLink "java/lang/Throwable" 24 "java/lang/Throwable" "suppressedExceptions" "Ljava/util/List;" ∈ bg := bg_at 323 (by decide +kernel) (by decide +kernel)
theorem bw_300 : Jvm.Cond.constantLong "LimbRegisters$Natural" 43 (268435455 : Int64) ∈ bg := bg_at 340 (by decide +kernel) (by decide +kernel)
theorem bw_327 : Jvm.Cond.classLink "LimbRegistersLaw" 23 "java/lang/UnsupportedOperationException" ∈ bg := bg_at 367 (by decide +kernel) (by decide +kernel)
theorem bw_369 : Jvm.Cond.constant "java/lang/Integer" 264 (65536 : Int32) ∈ bg := bg_at 409 (by decide +kernel) (by decide +kernel)
theorem bw_370 : Jvm.Cond.classLink "LimbRegisters" 132 "java/lang/UnsupportedOperationException" ∈ bg := bg_at 410 (by decide +kernel) (by decide +kernel)
theorem bw_371 : Jvm.Cond.instantiable "java/lang/UnsupportedOperationException" 6 ∈ bg := bg_at 411 (by decide +kernel) (by decide +kernel)
theorem bw_423 : Jvm.Cond.classLink "LimbRegistersLaw" 35 "java/lang/IllegalArgumentException" ∈ bg := bg_at 463 (by decide +kernel) (by decide +kernel)
theorem bw_424 : Jvm.Cond.classLink "LimbRegistersLaw" 37 "java/lang/ArithmeticException" ∈ bg := bg_at 464 (by decide +kernel) (by decide +kernel)
theorem bw_429 : Jvm.Cond.classLink "LimbRegisters" 86 "java/lang/IllegalArgumentException" ∈ bg := bg_at 469 (by decide +kernel) (by decide +kernel)
theorem bw_430 : Jvm.Cond.instantiable "java/lang/IllegalArgumentException" 6 ∈ bg := bg_at 470 (by decide +kernel) (by decide +kernel)
theorem bw_446 : Jvm.Cond.classLink "LimbRegisters" 99 "java/lang/ArithmeticException" ∈ bg := bg_at 486 (by decide +kernel) (by decide +kernel)
theorem bw_447 : Jvm.Cond.instantiable "java/lang/ArithmeticException" 6 ∈ bg := bg_at 487 (by decide +kernel) (by decide +kernel)
theorem bw_487 : Jvm.Cond.constantLong "LimbRegisters$Division" 86 (268435456 : Int64) ∈ bg := bg_at 527 (by decide +kernel) (by decide +kernel)
theorem bw_488 : Jvm.Cond.constantLong "LimbRegisters$Division" 88 (268435455 : Int64) ∈ bg := bg_at 528 (by decide +kernel) (by decide +kernel)
theorem bw_572 : Jvm.Cond.constantLong "LimbRegisters$Natural" 58 (2 : Int64) ∈ bg := bg_at 612 (by decide +kernel) (by decide +kernel)
theorem bw_632 : Jvm.Cond.classLink "LimbRegistersLaw" 55 "java/util/NoSuchElementException" ∈ bg := bg_at 672 (by decide +kernel) (by decide +kernel)
theorem bw_642 : Jvm.Cond.classLink "LimbRegisters" 171 "java/util/NoSuchElementException" ∈ bg := bg_at 682 (by decide +kernel) (by decide +kernel)
theorem bw_643 : Jvm.Cond.instantiable "java/util/NoSuchElementException" 6 ∈ bg := bg_at 683 (by decide +kernel) (by decide +kernel)
theorem bw_708 : Jvm.Cond.classLink "LimbRegistersLaw" 77 "java/lang/IllegalStateException" ∈ bg := bg_at 748 (by decide +kernel) (by decide +kernel)
theorem bw_721 : Jvm.Cond.classLink "LimbRegisters" 211 "java/lang/IllegalStateException" ∈ bg := bg_at 761 (by decide +kernel) (by decide +kernel)
theorem bw_722 : Jvm.Cond.instantiable "java/lang/IllegalStateException" 6 ∈ bg := bg_at 762 (by decide +kernel) (by decide +kernel)
theorem bw_795 : Jvm.Cond.constantLong "LimbRegisters$Natural" 60 (268435456 : Int64) ∈ bg := bg_at 835 (by decide +kernel) (by decide +kernel)
theorem bw_811 : Jvm.Cond.classLink "LimbRegistersLaw" 89 "LimbRegistersModel" ∈ bg := bg_at 851 (by decide +kernel) (by decide +kernel)
theorem bw_812 : Jvm.Cond.instantiable "LimbRegistersModel" 6 ∈ bg := bg_at 852 (by decide +kernel) (by decide +kernel)
theorem bw_817 : Jvm.Cond.fieldLink "LimbRegistersModel" 22 "LimbRegistersModel" "code" "I" ∈ bg := bg_at 857 (by decide +kernel) (by decide +kernel)
theorem bw_818 : Jvm.Cond.fieldLink "LimbRegistersModel" 7 "LimbRegistersModel" "d" "[I" ∈ bg := bg_at 858 (by decide +kernel) (by decide +kernel)
theorem bw_819 : Jvm.Cond.fieldLink "LimbRegistersModel" 13 "LimbRegistersModel" "size" "[I" ∈ bg := bg_at 859 (by decide +kernel) (by decide +kernel)
theorem bw_820 : Jvm.Cond.fieldLink "LimbRegistersModel" 16 "LimbRegistersModel" "sign" "[I" ∈ bg := bg_at 860 (by decide +kernel) (by decide +kernel)
theorem bw_821 : Jvm.Cond.fieldLink "LimbRegistersModel" 127 "LimbRegistersModel" "length" "I" ∈ bg := bg_at 861 (by decide +kernel) (by decide +kernel)
theorem bw_822 : Jvm.Cond.fieldLink "LimbRegistersModel" 19 "LimbRegistersModel" "text" "[I" ∈ bg := bg_at 862 (by decide +kernel) (by decide +kernel)
theorem bw_836 : Jvm.Cond.arrayClass Jvm.ClassFile.FieldType.int ∈ bg := bg_at 876 (by decide +kernel) (by decide +kernel)
theorem bw_852 : Jvm.Cond.constantLong "LimbRegistersModel" 34 (1048575 : Int64) ∈ bg := bg_at 892 (by decide +kernel) (by decide +kernel)
theorem bw_889 : Jvm.Cond.constant "LimbRegistersModel" 33 (1048575 : Int32) ∈ bg := bg_at 929 (by decide +kernel) (by decide +kernel)
theorem bw_950 : Jvm.Cond.constantLong "LimbRegistersModel" 107 (1024 : Int64) ∈ bg := bg_at 990 (by decide +kernel) (by decide +kernel)
theorem bw_1011 : Jvm.Cond.constantLong "LimbRegistersModel" 121 (255 : Int64) ∈ bg := bg_at 1051 (by decide +kernel) (by decide +kernel)
theorem bw_1012 : Jvm.Cond.constantLong "LimbRegistersModel" 123 (32 : Int64) ∈ bg := bg_at 1052 (by decide +kernel) (by decide +kernel)
theorem bw_1013 : Jvm.Cond.constantLong "LimbRegistersModel" 125 (126 : Int64) ∈ bg := bg_at 1053 (by decide +kernel) (by decide +kernel)
theorem bw_1041 : Jvm.Cond.constantLong "LimbRegistersLaw" 92 (4294967295 : Int64) ∈ bg := bg_at 1081 (by decide +kernel) (by decide +kernel)
theorem lk_Y_156 : wLv "LimbRegistersLaw" 156 y_L_wipe c_L_wipe 2 (some .int) 0 := ⟨⟨bg_at 250 (by decide +kernel) (by decide +kernel), bg_at 41 (by decide +kernel) (by decide +kernel), ⟨by decide +kernel, by decide +kernel⟩, by decide +kernel, bg_at 247 (by decide +kernel) (by decide +kernel)⟩, bg_at 248 (by decide +kernel) (by decide +kernel), bg_at 249 (by decide +kernel) (by decide +kernel)⟩
theorem lk_Y_7 : wLv "LimbRegistersLaw" 7 y_L_set c_L_set 4 none 2 := ⟨⟨bg_at 258 (by decide +kernel) (by decide +kernel), bg_at 41 (by decide +kernel) (by decide +kernel), ⟨by decide +kernel, by decide +kernel⟩, by decide +kernel, bg_at 255 (by decide +kernel) (by decide +kernel)⟩, bg_at 256 (by decide +kernel) (by decide +kernel), bg_at 257 (by decide +kernel) (by decide +kernel)⟩
theorem lk_L_55 : wLs "LimbRegisters" 55 y_L_needRegister c_L_needRegister 1 none 1 := ⟨⟨bg_at 261 (by decide +kernel) (by decide +kernel), bg_at 41 (by decide +kernel) (by decide +kernel), ⟨by decide +kernel, by decide +kernel⟩, by decide +kernel, bg_at 259 (by decide +kernel) (by decide +kernel)⟩, bg_at 260 (by decide +kernel) (by decide +kernel)⟩
theorem lk_L_59 : wLv "LimbRegisters" 59 y_W_takeLong c_W_takeLong 3 none 1 := ⟨⟨bg_at 335 (by decide +kernel) (by decide +kernel), bg_at 42 (by decide +kernel) (by decide +kernel), ⟨by decide +kernel, by decide +kernel⟩, by decide +kernel, bg_at 332 (by decide +kernel) (by decide +kernel)⟩, bg_at 333 (by decide +kernel) (by decide +kernel), bg_at 334 (by decide +kernel) (by decide +kernel)⟩
theorem lk_W_28 : wLv "LimbRegisters$Whole" 28 y_N_takeUnsigned c_N_takeUnsigned 3 none 1 := ⟨⟨bg_at 339 (by decide +kernel) (by decide +kernel), bg_at 43 (by decide +kernel) (by decide +kernel), ⟨by decide +kernel, by decide +kernel⟩, by decide +kernel, bg_at 336 (by decide +kernel) (by decide +kernel)⟩, bg_at 337 (by decide +kernel) (by decide +kernel), bg_at 338 (by decide +kernel) (by decide +kernel)⟩
theorem lk_N_39 : wLv "LimbRegisters$Natural" 39 y_N_settle c_N_settle 3 none 1 := ⟨⟨bg_at 344 (by decide +kernel) (by decide +kernel), bg_at 43 (by decide +kernel) (by decide +kernel), ⟨by decide +kernel, by decide +kernel⟩, by decide +kernel, bg_at 341 (by decide +kernel) (by decide +kernel)⟩, bg_at 342 (by decide +kernel) (by decide +kernel), bg_at 343 (by decide +kernel) (by decide +kernel)⟩
theorem lk_Y_15 : wLv "LimbRegistersLaw" 15 y_L_copy c_L_copy 4 none 3 := ⟨⟨bg_at 351 (by decide +kernel) (by decide +kernel), bg_at 41 (by decide +kernel) (by decide +kernel), ⟨by decide +kernel, by decide +kernel⟩, by decide +kernel, bg_at 348 (by decide +kernel) (by decide +kernel)⟩, bg_at 349 (by decide +kernel) (by decide +kernel), bg_at 350 (by decide +kernel) (by decide +kernel)⟩
theorem lk_L_71 : wLv "LimbRegisters" 71 y_W_take c_W_take 3 none 2 := ⟨⟨bg_at 355 (by decide +kernel) (by decide +kernel), bg_at 42 (by decide +kernel) (by decide +kernel), ⟨by decide +kernel, by decide +kernel⟩, by decide +kernel, bg_at 352 (by decide +kernel) (by decide +kernel)⟩, bg_at 353 (by decide +kernel) (by decide +kernel), bg_at 354 (by decide +kernel) (by decide +kernel)⟩
theorem lk_W_20 : wLv "LimbRegisters$Whole" 20 y_N_take c_N_take 4 none 1 := ⟨⟨bg_at 359 (by decide +kernel) (by decide +kernel), bg_at 43 (by decide +kernel) (by decide +kernel), ⟨by decide +kernel, by decide +kernel⟩, by decide +kernel, bg_at 356 (by decide +kernel) (by decide +kernel)⟩, bg_at 357 (by decide +kernel) (by decide +kernel), bg_at 358 (by decide +kernel) (by decide +kernel)⟩
theorem lk_W_24 : wLv "LimbRegisters$Whole" 24 y_N_isZero c_N_isZero 1 (some .boolean) 0 := ⟨⟨bg_at 363 (by decide +kernel) (by decide +kernel), bg_at 43 (by decide +kernel) (by decide +kernel), ⟨by decide +kernel, by decide +kernel⟩, by decide +kernel, bg_at 360 (by decide +kernel) (by decide +kernel)⟩, bg_at 361 (by decide +kernel) (by decide +kernel), bg_at 362 (by decide +kernel) (by decide +kernel)⟩
theorem lk_Y_19 : wLv "LimbRegistersLaw" 19 y_L_add c_L_add 4 none 3 := ⟨⟨bg_at 371 (by decide +kernel) (by decide +kernel), bg_at 41 (by decide +kernel) (by decide +kernel), ⟨by decide +kernel, by decide +kernel⟩, by decide +kernel, bg_at 368 (by decide +kernel) (by decide +kernel)⟩, bg_at 369 (by decide +kernel) (by decide +kernel), bg_at 370 (by decide +kernel) (by decide +kernel)⟩
theorem lk_L_75 : wLv "LimbRegisters" 75 y_W_takeSum c_W_takeSum 6 none 3 := ⟨⟨bg_at 375 (by decide +kernel) (by decide +kernel), bg_at 42 (by decide +kernel) (by decide +kernel), ⟨by decide +kernel, by decide +kernel⟩, by decide +kernel, bg_at 372 (by decide +kernel) (by decide +kernel)⟩, bg_at 373 (by decide +kernel) (by decide +kernel), bg_at 374 (by decide +kernel) (by decide +kernel)⟩
theorem lk_W_32 : wLv "LimbRegisters$Whole" 32 y_N_takeSum c_N_takeSum 7 none 2 := ⟨⟨bg_at 379 (by decide +kernel) (by decide +kernel), bg_at 43 (by decide +kernel) (by decide +kernel), ⟨by decide +kernel, by decide +kernel⟩, by decide +kernel, bg_at 376 (by decide +kernel) (by decide +kernel)⟩, bg_at 377 (by decide +kernel) (by decide +kernel), bg_at 378 (by decide +kernel) (by decide +kernel)⟩
theorem lk_N_45 : wLs "LimbRegisters$Natural" 45 y_JM_maxI c_JM_maxI 2 (some .int) 2 := ⟨⟨bg_at 382 (by decide +kernel) (by decide +kernel), bg_at 54 (by decide +kernel) (by decide +kernel), ⟨by decide +kernel, by decide +kernel⟩, by decide +kernel, bg_at 380 (by decide +kernel) (by decide +kernel)⟩, bg_at 381 (by decide +kernel) (by decide +kernel)⟩
theorem lk_W_36 : wLv "LimbRegisters$Whole" 36 y_N_order c_N_order 3 (some .int) 1 := ⟨⟨bg_at 386 (by decide +kernel) (by decide +kernel), bg_at 43 (by decide +kernel) (by decide +kernel), ⟨by decide +kernel, by decide +kernel⟩, by decide +kernel, bg_at 383 (by decide +kernel) (by decide +kernel)⟩, bg_at 384 (by decide +kernel) (by decide +kernel), bg_at 385 (by decide +kernel) (by decide +kernel)⟩
theorem lk_W_40 : wLv "LimbRegisters$Whole" 40 y_N_takeDifference c_N_takeDifference 7 none 2 := ⟨⟨bg_at 390 (by decide +kernel) (by decide +kernel), bg_at 43 (by decide +kernel) (by decide +kernel), ⟨by decide +kernel, by decide +kernel⟩, by decide +kernel, bg_at 387 (by decide +kernel) (by decide +kernel)⟩, bg_at 388 (by decide +kernel) (by decide +kernel), bg_at 389 (by decide +kernel) (by decide +kernel)⟩
theorem lk_L_79 : wLv "LimbRegisters" 79 y_L_keepAnswer c_L_keepAnswer 2 none 1 := ⟨⟨bg_at 394 (by decide +kernel) (by decide +kernel), bg_at 41 (by decide +kernel) (by decide +kernel), ⟨by decide +kernel, by decide +kernel⟩, by decide +kernel, bg_at 391 (by decide +kernel) (by decide +kernel)⟩, bg_at 393 (by decide +kernel) (by decide +kernel), bg_at 1 (by decide +kernel) (by decide +kernel)⟩
theorem lk_L_128 : wLv "LimbRegisters" 128 y_N_length c_N_length 1 (some .int) 0 := ⟨⟨bg_at 398 (by decide +kernel) (by decide +kernel), bg_at 43 (by decide +kernel) (by decide +kernel), ⟨by decide +kernel, by decide +kernel⟩, by decide +kernel, bg_at 395 (by decide +kernel) (by decide +kernel)⟩, bg_at 396 (by decide +kernel) (by decide +kernel), bg_at 397 (by decide +kernel) (by decide +kernel)⟩
theorem lk_N_23 : wLv "LimbRegisters$Natural" 23 y_N_spareBits c_N_spareBits 1 (some .int) 0 := ⟨⟨bg_at 402 (by decide +kernel) (by decide +kernel), bg_at 43 (by decide +kernel) (by decide +kernel), ⟨by decide +kernel, by decide +kernel⟩, by decide +kernel, bg_at 399 (by decide +kernel) (by decide +kernel)⟩, bg_at 400 (by decide +kernel) (by decide +kernel), bg_at 401 (by decide +kernel) (by decide +kernel)⟩
theorem lk_N_27 : wLs "LimbRegisters$Natural" 27 y_JL_numberOfLeadingZeros c_JL_numberOfLeadingZeros 3 (some .int) 1 := ⟨⟨bg_at 405 (by decide +kernel) (by decide +kernel), bg_at 55 (by decide +kernel) (by decide +kernel), ⟨by decide +kernel, by decide +kernel⟩, by decide +kernel, bg_at 403 (by decide +kernel) (by decide +kernel)⟩, bg_at 404 (by decide +kernel) (by decide +kernel)⟩
theorem lk_JL_308 : wLs "java/lang/Long" 308 y_JI_numberOfLeadingZeros c_JI_numberOfLeadingZeros 2 (some .int) 1 := ⟨⟨bg_at 408 (by decide +kernel) (by decide +kernel), bg_at 56 (by decide +kernel) (by decide +kernel), ⟨by decide +kernel, by decide +kernel⟩, by decide +kernel, bg_at 406 (by decide +kernel) (by decide +kernel)⟩, bg_at 407 (by decide +kernel) (by decide +kernel)⟩
theorem lk_Y_25 : wLv "LimbRegistersLaw" 25 y_L_subtract c_L_subtract 4 none 3 := ⟨⟨bg_at 432 (by decide +kernel) (by decide +kernel), bg_at 41 (by decide +kernel) (by decide +kernel), ⟨by decide +kernel, by decide +kernel⟩, by decide +kernel, bg_at 429 (by decide +kernel) (by decide +kernel)⟩, bg_at 430 (by decide +kernel) (by decide +kernel), bg_at 431 (by decide +kernel) (by decide +kernel)⟩
theorem lk_Y_28 : wLv "LimbRegistersLaw" 28 y_L_multiply c_L_multiply 4 none 3 := ⟨⟨bg_at 439 (by decide +kernel) (by decide +kernel), bg_at 41 (by decide +kernel) (by decide +kernel), ⟨by decide +kernel, by decide +kernel⟩, by decide +kernel, bg_at 436 (by decide +kernel) (by decide +kernel)⟩, bg_at 437 (by decide +kernel) (by decide +kernel), bg_at 438 (by decide +kernel) (by decide +kernel)⟩
theorem lk_L_82 : wLv "LimbRegisters" 82 y_W_takeProduct c_W_takeProduct 3 none 2 := ⟨⟨bg_at 443 (by decide +kernel) (by decide +kernel), bg_at 42 (by decide +kernel) (by decide +kernel), ⟨by decide +kernel, by decide +kernel⟩, by decide +kernel, bg_at 440 (by decide +kernel) (by decide +kernel)⟩, bg_at 441 (by decide +kernel) (by decide +kernel), bg_at 442 (by decide +kernel) (by decide +kernel)⟩
theorem lk_W_43 : wLv "LimbRegisters$Whole" 43 y_N_takeProduct c_N_takeProduct 4 none 2 := ⟨⟨bg_at 447 (by decide +kernel) (by decide +kernel), bg_at 43 (by decide +kernel) (by decide +kernel), ⟨by decide +kernel, by decide +kernel⟩, by decide +kernel, bg_at 444 (by decide +kernel) (by decide +kernel)⟩, bg_at 445 (by decide +kernel) (by decide +kernel), bg_at 446 (by decide +kernel) (by decide +kernel)⟩
theorem lk_N_48 : wLv "LimbRegisters$Natural" 48 y_N_clear c_N_clear 1 none 0 := ⟨⟨bg_at 451 (by decide +kernel) (by decide +kernel), bg_at 43 (by decide +kernel) (by decide +kernel), ⟨by decide +kernel, by decide +kernel⟩, by decide +kernel, bg_at 448 (by decide +kernel) (by decide +kernel)⟩, bg_at 449 (by decide +kernel) (by decide +kernel), bg_at 450 (by decide +kernel) (by decide +kernel)⟩
theorem lk_N_51 : wLv "LimbRegisters$Natural" 51 y_N_gather c_N_gather 10 none 4 := ⟨⟨bg_at 455 (by decide +kernel) (by decide +kernel), bg_at 43 (by decide +kernel) (by decide +kernel), ⟨by decide +kernel, by decide +kernel⟩, by decide +kernel, bg_at 452 (by decide +kernel) (by decide +kernel)⟩, bg_at 454 (by decide +kernel) (by decide +kernel), bg_at 2 (by decide +kernel) (by decide +kernel)⟩
theorem lk_N_55 : wLv "LimbRegisters$Natural" 55 y_N_carryUp c_N_carryUp 5 none 1 := ⟨⟨bg_at 459 (by decide +kernel) (by decide +kernel), bg_at 43 (by decide +kernel) (by decide +kernel), ⟨by decide +kernel, by decide +kernel⟩, by decide +kernel, bg_at 456 (by decide +kernel) (by decide +kernel)⟩, bg_at 458 (by decide +kernel) (by decide +kernel), bg_at 3 (by decide +kernel) (by decide +kernel)⟩
theorem lk_Y_31 : wLv "LimbRegistersLaw" 31 y_L_divide c_L_divide 9 none 5 := ⟨⟨bg_at 468 (by decide +kernel) (by decide +kernel), bg_at 41 (by decide +kernel) (by decide +kernel), ⟨by decide +kernel, by decide +kernel⟩, by decide +kernel, bg_at 465 (by decide +kernel) (by decide +kernel)⟩, bg_at 466 (by decide +kernel) (by decide +kernel), bg_at 467 (by decide +kernel) (by decide +kernel)⟩
theorem lk_L_93 : wLv "LimbRegisters" 93 y_N_isZero c_N_isZero 1 (some .boolean) 0 := ⟨⟨bg_at 363 (by decide +kernel) (by decide +kernel), bg_at 43 (by decide +kernel) (by decide +kernel), ⟨by decide +kernel, by decide +kernel⟩, by decide +kernel, bg_at 485 (by decide +kernel) (by decide +kernel)⟩, bg_at 361 (by decide +kernel) (by decide +kernel), bg_at 362 (by decide +kernel) (by decide +kernel)⟩
theorem lk_L_104 : wLv "LimbRegisters" 104 y_D_run c_D_run 6 none 2 := ⟨⟨bg_at 505 (by decide +kernel) (by decide +kernel), bg_at 45 (by decide +kernel) (by decide +kernel), ⟨by decide +kernel, by decide +kernel⟩, by decide +kernel, bg_at 502 (by decide +kernel) (by decide +kernel)⟩, bg_at 503 (by decide +kernel) (by decide +kernel), bg_at 504 (by decide +kernel) (by decide +kernel)⟩
theorem lk_D_24 : wLv "LimbRegisters$Division" 24 y_N_clear c_N_clear 1 none 0 := ⟨⟨bg_at 451 (by decide +kernel) (by decide +kernel), bg_at 43 (by decide +kernel) (by decide +kernel), ⟨by decide +kernel, by decide +kernel⟩, by decide +kernel, bg_at 506 (by decide +kernel) (by decide +kernel)⟩, bg_at 449 (by decide +kernel) (by decide +kernel), bg_at 450 (by decide +kernel) (by decide +kernel)⟩
theorem lk_D_27 : wLv "LimbRegisters$Division" 27 y_N_isZero c_N_isZero 1 (some .boolean) 0 := ⟨⟨bg_at 363 (by decide +kernel) (by decide +kernel), bg_at 43 (by decide +kernel) (by decide +kernel), ⟨by decide +kernel, by decide +kernel⟩, by decide +kernel, bg_at 507 (by decide +kernel) (by decide +kernel)⟩, bg_at 361 (by decide +kernel) (by decide +kernel), bg_at 362 (by decide +kernel) (by decide +kernel)⟩
theorem lk_D_31 : wLv "LimbRegisters$Division" 31 y_N_order c_N_order 3 (some .int) 1 := ⟨⟨bg_at 386 (by decide +kernel) (by decide +kernel), bg_at 43 (by decide +kernel) (by decide +kernel), ⟨by decide +kernel, by decide +kernel⟩, by decide +kernel, bg_at 508 (by decide +kernel) (by decide +kernel)⟩, bg_at 384 (by decide +kernel) (by decide +kernel), bg_at 385 (by decide +kernel) (by decide +kernel)⟩
theorem lk_D_35 : wLv "LimbRegisters$Division" 35 y_N_take c_N_take 4 none 1 := ⟨⟨bg_at 359 (by decide +kernel) (by decide +kernel), bg_at 43 (by decide +kernel) (by decide +kernel), ⟨by decide +kernel, by decide +kernel⟩, by decide +kernel, bg_at 509 (by decide +kernel) (by decide +kernel)⟩, bg_at 357 (by decide +kernel) (by decide +kernel), bg_at 358 (by decide +kernel) (by decide +kernel)⟩
theorem lk_D_39 : wLv "LimbRegisters$Division" 39 y_N_spareBits c_N_spareBits 1 (some .int) 0 := ⟨⟨bg_at 402 (by decide +kernel) (by decide +kernel), bg_at 43 (by decide +kernel) (by decide +kernel), ⟨by decide +kernel, by decide +kernel⟩, by decide +kernel, bg_at 510 (by decide +kernel) (by decide +kernel)⟩, bg_at 400 (by decide +kernel) (by decide +kernel), bg_at 401 (by decide +kernel) (by decide +kernel)⟩
theorem lk_D_43 : wLv "LimbRegisters$Division" 43 y_N_takeRaised c_N_takeRaised 11 none 2 := ⟨⟨bg_at 514 (by decide +kernel) (by decide +kernel), bg_at 43 (by decide +kernel) (by decide +kernel), ⟨by decide +kernel, by decide +kernel⟩, by decide +kernel, bg_at 511 (by decide +kernel) (by decide +kernel)⟩, bg_at 512 (by decide +kernel) (by decide +kernel), bg_at 513 (by decide +kernel) (by decide +kernel)⟩
theorem lk_D_55 : wLv "LimbRegisters$Division" 55 y_D_nextLimb c_D_nextLimb 4 (some .long) 1 := ⟨⟨bg_at 518 (by decide +kernel) (by decide +kernel), bg_at 45 (by decide +kernel) (by decide +kernel), ⟨by decide +kernel, by decide +kernel⟩, by decide +kernel, bg_at 515 (by decide +kernel) (by decide +kernel)⟩, bg_at 517 (by decide +kernel) (by decide +kernel), bg_at 4 (by decide +kernel) (by decide +kernel)⟩
theorem lk_D_73 : wLv "LimbRegisters$Division" 73 y_D_guessLimb c_D_guessLimb 15 (some .long) 1 := ⟨⟨bg_at 522 (by decide +kernel) (by decide +kernel), bg_at 45 (by decide +kernel) (by decide +kernel), ⟨by decide +kernel, by decide +kernel⟩, by decide +kernel, bg_at 519 (by decide +kernel) (by decide +kernel)⟩, bg_at 521 (by decide +kernel) (by decide +kernel), bg_at 5 (by decide +kernel) (by decide +kernel)⟩
theorem lk_D_83 : wLv "LimbRegisters$Division" 83 y_N_at c_N_at 2 (some .long) 1 := ⟨⟨bg_at 526 (by decide +kernel) (by decide +kernel), bg_at 43 (by decide +kernel) (by decide +kernel), ⟨by decide +kernel, by decide +kernel⟩, by decide +kernel, bg_at 523 (by decide +kernel) (by decide +kernel)⟩, bg_at 524 (by decide +kernel) (by decide +kernel), bg_at 525 (by decide +kernel) (by decide +kernel)⟩
theorem lk_D_90 : wLs "LimbRegisters$Division" 90 y_JM_minJ c_JM_minJ 4 (some .long) 2 := ⟨⟨bg_at 531 (by decide +kernel) (by decide +kernel), bg_at 54 (by decide +kernel) (by decide +kernel), ⟨by decide +kernel, by decide +kernel⟩, by decide +kernel, bg_at 529 (by decide +kernel) (by decide +kernel)⟩, bg_at 530 (by decide +kernel) (by decide +kernel)⟩
theorem lk_D_76 : wLv "LimbRegisters$Division" 76 y_D_takeAway c_D_takeAway 10 (some .boolean) 2 := ⟨⟨bg_at 535 (by decide +kernel) (by decide +kernel), bg_at 45 (by decide +kernel) (by decide +kernel), ⟨by decide +kernel, by decide +kernel⟩, by decide +kernel, bg_at 532 (by decide +kernel) (by decide +kernel)⟩, bg_at 534 (by decide +kernel) (by decide +kernel), bg_at 6 (by decide +kernel) (by decide +kernel)⟩
theorem lk_D_80 : wLv "LimbRegisters$Division" 80 y_D_putBack c_D_putBack 6 none 1 := ⟨⟨bg_at 539 (by decide +kernel) (by decide +kernel), bg_at 45 (by decide +kernel) (by decide +kernel), ⟨by decide +kernel, by decide +kernel⟩, by decide +kernel, bg_at 536 (by decide +kernel) (by decide +kernel)⟩, bg_at 538 (by decide +kernel) (by decide +kernel), bg_at 7 (by decide +kernel) (by decide +kernel)⟩
theorem lk_D_59 : wLv "LimbRegisters$Division" 59 y_N_settle c_N_settle 3 none 1 := ⟨⟨bg_at 344 (by decide +kernel) (by decide +kernel), bg_at 43 (by decide +kernel) (by decide +kernel), ⟨by decide +kernel, by decide +kernel⟩, by decide +kernel, bg_at 540 (by decide +kernel) (by decide +kernel)⟩, bg_at 342 (by decide +kernel) (by decide +kernel), bg_at 343 (by decide +kernel) (by decide +kernel)⟩
theorem lk_D_63 : wLv "LimbRegisters$Division" 63 y_N_takeLowered c_N_takeLowered 11 none 2 := ⟨⟨bg_at 544 (by decide +kernel) (by decide +kernel), bg_at 43 (by decide +kernel) (by decide +kernel), ⟨by decide +kernel, by decide +kernel⟩, by decide +kernel, bg_at 541 (by decide +kernel) (by decide +kernel)⟩, bg_at 542 (by decide +kernel) (by decide +kernel), bg_at 543 (by decide +kernel) (by decide +kernel)⟩
theorem lk_N_19 : wLv "LimbRegisters$Natural" 19 y_N_at c_N_at 2 (some .long) 1 := ⟨⟨bg_at 526 (by decide +kernel) (by decide +kernel), bg_at 43 (by decide +kernel) (by decide +kernel), ⟨by decide +kernel, by decide +kernel⟩, by decide +kernel, bg_at 545 (by decide +kernel) (by decide +kernel)⟩, bg_at 524 (by decide +kernel) (by decide +kernel), bg_at 525 (by decide +kernel) (by decide +kernel)⟩
theorem lk_L_111 : wLv "LimbRegisters" 111 y_D_stepOver c_D_stepOver 2 none 1 := ⟨⟨bg_at 549 (by decide +kernel) (by decide +kernel), bg_at 45 (by decide +kernel) (by decide +kernel), ⟨by decide +kernel, by decide +kernel⟩, by decide +kernel, bg_at 546 (by decide +kernel) (by decide +kernel)⟩, bg_at 547 (by decide +kernel) (by decide +kernel), bg_at 548 (by decide +kernel) (by decide +kernel)⟩
theorem lk_D_66 : wLv "LimbRegisters$Division" 66 y_N_increase c_N_increase 2 none 0 := ⟨⟨bg_at 553 (by decide +kernel) (by decide +kernel), bg_at 43 (by decide +kernel) (by decide +kernel), ⟨by decide +kernel, by decide +kernel⟩, by decide +kernel, bg_at 550 (by decide +kernel) (by decide +kernel)⟩, bg_at 551 (by decide +kernel) (by decide +kernel), bg_at 552 (by decide +kernel) (by decide +kernel)⟩
theorem lk_D_69 : wLv "LimbRegisters$Division" 69 y_N_takeDifference c_N_takeDifference 7 none 2 := ⟨⟨bg_at 390 (by decide +kernel) (by decide +kernel), bg_at 43 (by decide +kernel) (by decide +kernel), ⟨by decide +kernel, by decide +kernel⟩, by decide +kernel, bg_at 554 (by decide +kernel) (by decide +kernel)⟩, bg_at 388 (by decide +kernel) (by decide +kernel), bg_at 389 (by decide +kernel) (by decide +kernel)⟩
theorem lk_Y_39 : wLv "LimbRegistersLaw" 39 y_L_shift c_L_shift 5 none 3 := ⟨⟨bg_at 561 (by decide +kernel) (by decide +kernel), bg_at 41 (by decide +kernel) (by decide +kernel), ⟨by decide +kernel, by decide +kernel⟩, by decide +kernel, bg_at 558 (by decide +kernel) (by decide +kernel)⟩, bg_at 559 (by decide +kernel) (by decide +kernel), bg_at 560 (by decide +kernel) (by decide +kernel)⟩
theorem lk_L_118 : wLs "LimbRegisters" 118 y_JM_maxI c_JM_maxI 2 (some .int) 2 := ⟨⟨bg_at 382 (by decide +kernel) (by decide +kernel), bg_at 54 (by decide +kernel) (by decide +kernel), ⟨by decide +kernel, by decide +kernel⟩, by decide +kernel, bg_at 562 (by decide +kernel) (by decide +kernel)⟩, bg_at 381 (by decide +kernel) (by decide +kernel)⟩
theorem lk_L_124 : wLv "LimbRegisters" 124 y_W_takeLowered c_W_takeLowered 4 none 2 := ⟨⟨bg_at 566 (by decide +kernel) (by decide +kernel), bg_at 42 (by decide +kernel) (by decide +kernel), ⟨by decide +kernel, by decide +kernel⟩, by decide +kernel, bg_at 563 (by decide +kernel) (by decide +kernel)⟩, bg_at 564 (by decide +kernel) (by decide +kernel), bg_at 565 (by decide +kernel) (by decide +kernel)⟩
theorem lk_W_50 : wLv "LimbRegisters$Whole" 50 y_N_hasBitBelow c_N_hasBitBelow 4 (some .boolean) 1 := ⟨⟨bg_at 570 (by decide +kernel) (by decide +kernel), bg_at 43 (by decide +kernel) (by decide +kernel), ⟨by decide +kernel, by decide +kernel⟩, by decide +kernel, bg_at 567 (by decide +kernel) (by decide +kernel)⟩, bg_at 568 (by decide +kernel) (by decide +kernel), bg_at 569 (by decide +kernel) (by decide +kernel)⟩
theorem lk_N_33 : wLs "LimbRegisters$Natural" 33 y_JM_minI c_JM_minI 2 (some .int) 2 := ⟨⟨bg_at 573 (by decide +kernel) (by decide +kernel), bg_at 54 (by decide +kernel) (by decide +kernel), ⟨by decide +kernel, by decide +kernel⟩, by decide +kernel, bg_at 571 (by decide +kernel) (by decide +kernel)⟩, bg_at 572 (by decide +kernel) (by decide +kernel)⟩
theorem lk_W_54 : wLv "LimbRegisters$Whole" 54 y_N_takeLowered c_N_takeLowered 11 none 2 := ⟨⟨bg_at 544 (by decide +kernel) (by decide +kernel), bg_at 43 (by decide +kernel) (by decide +kernel), ⟨by decide +kernel, by decide +kernel⟩, by decide +kernel, bg_at 574 (by decide +kernel) (by decide +kernel)⟩, bg_at 542 (by decide +kernel) (by decide +kernel), bg_at 543 (by decide +kernel) (by decide +kernel)⟩
theorem lk_W_57 : wLv "LimbRegisters$Whole" 57 y_N_increase c_N_increase 2 none 0 := ⟨⟨bg_at 553 (by decide +kernel) (by decide +kernel), bg_at 43 (by decide +kernel) (by decide +kernel), ⟨by decide +kernel, by decide +kernel⟩, by decide +kernel, bg_at 575 (by decide +kernel) (by decide +kernel)⟩, bg_at 551 (by decide +kernel) (by decide +kernel), bg_at 552 (by decide +kernel) (by decide +kernel)⟩
theorem lk_L_137 : wLv "LimbRegisters" 137 y_W_takeRaised c_W_takeRaised 3 none 2 := ⟨⟨bg_at 579 (by decide +kernel) (by decide +kernel), bg_at 42 (by decide +kernel) (by decide +kernel), ⟨by decide +kernel, by decide +kernel⟩, by decide +kernel, bg_at 576 (by decide +kernel) (by decide +kernel)⟩, bg_at 577 (by decide +kernel) (by decide +kernel), bg_at 578 (by decide +kernel) (by decide +kernel)⟩
theorem lk_W_46 : wLv "LimbRegisters$Whole" 46 y_N_takeRaised c_N_takeRaised 11 none 2 := ⟨⟨bg_at 514 (by decide +kernel) (by decide +kernel), bg_at 43 (by decide +kernel) (by decide +kernel), ⟨by decide +kernel, by decide +kernel⟩, by decide +kernel, bg_at 580 (by decide +kernel) (by decide +kernel)⟩, bg_at 512 (by decide +kernel) (by decide +kernel), bg_at 513 (by decide +kernel) (by decide +kernel)⟩
theorem lk_Y_42 : wLv "LimbRegistersLaw" 42 y_L_root c_L_root 4 none 3 := ⟨⟨bg_at 587 (by decide +kernel) (by decide +kernel), bg_at 41 (by decide +kernel) (by decide +kernel), ⟨by decide +kernel, by decide +kernel⟩, by decide +kernel, bg_at 584 (by decide +kernel) (by decide +kernel)⟩, bg_at 585 (by decide +kernel) (by decide +kernel), bg_at 586 (by decide +kernel) (by decide +kernel)⟩
theorem lk_L_144 : wLv "LimbRegisters" 144 y_O_run c_O_run 4 none 2 := ⟨⟨bg_at 593 (by decide +kernel) (by decide +kernel), bg_at 46 (by decide +kernel) (by decide +kernel), ⟨by decide +kernel, by decide +kernel⟩, by decide +kernel, bg_at 590 (by decide +kernel) (by decide +kernel)⟩, bg_at 591 (by decide +kernel) (by decide +kernel), bg_at 592 (by decide +kernel) (by decide +kernel)⟩
theorem lk_O_25 : wLv "LimbRegisters$Roots" 25 y_N_clear c_N_clear 1 none 0 := ⟨⟨bg_at 451 (by decide +kernel) (by decide +kernel), bg_at 43 (by decide +kernel) (by decide +kernel), ⟨by decide +kernel, by decide +kernel⟩, by decide +kernel, bg_at 594 (by decide +kernel) (by decide +kernel)⟩, bg_at 449 (by decide +kernel) (by decide +kernel), bg_at 450 (by decide +kernel) (by decide +kernel)⟩
theorem lk_O_28 : wLv "LimbRegisters$Roots" 28 y_N_isZero c_N_isZero 1 (some .boolean) 0 := ⟨⟨bg_at 363 (by decide +kernel) (by decide +kernel), bg_at 43 (by decide +kernel) (by decide +kernel), ⟨by decide +kernel, by decide +kernel⟩, by decide +kernel, bg_at 595 (by decide +kernel) (by decide +kernel)⟩, bg_at 361 (by decide +kernel) (by decide +kernel), bg_at 362 (by decide +kernel) (by decide +kernel)⟩
theorem lk_O_32 : wLv "LimbRegisters$Roots" 32 y_N_length c_N_length 1 (some .int) 0 := ⟨⟨bg_at 398 (by decide +kernel) (by decide +kernel), bg_at 43 (by decide +kernel) (by decide +kernel), ⟨by decide +kernel, by decide +kernel⟩, by decide +kernel, bg_at 596 (by decide +kernel) (by decide +kernel)⟩, bg_at 396 (by decide +kernel) (by decide +kernel), bg_at 397 (by decide +kernel) (by decide +kernel)⟩
theorem lk_O_36 : wLv "LimbRegisters$Roots" 36 y_N_take c_N_take 4 none 1 := ⟨⟨bg_at 359 (by decide +kernel) (by decide +kernel), bg_at 43 (by decide +kernel) (by decide +kernel), ⟨by decide +kernel, by decide +kernel⟩, by decide +kernel, bg_at 597 (by decide +kernel) (by decide +kernel)⟩, bg_at 357 (by decide +kernel) (by decide +kernel), bg_at 358 (by decide +kernel) (by decide +kernel)⟩
theorem lk_O_40 : wLv "LimbRegisters$Roots" 40 y_N_putBit c_N_putBit 3 none 1 := ⟨⟨bg_at 601 (by decide +kernel) (by decide +kernel), bg_at 43 (by decide +kernel) (by decide +kernel), ⟨by decide +kernel, by decide +kernel⟩, by decide +kernel, bg_at 598 (by decide +kernel) (by decide +kernel)⟩, bg_at 599 (by decide +kernel) (by decide +kernel), bg_at 600 (by decide +kernel) (by decide +kernel)⟩
theorem lk_O_44 : wLv "LimbRegisters$Roots" 44 y_O_isTrialWithin c_O_isTrialWithin 5 (some .boolean) 2 := ⟨⟨bg_at 605 (by decide +kernel) (by decide +kernel), bg_at 46 (by decide +kernel) (by decide +kernel), ⟨by decide +kernel, by decide +kernel⟩, by decide +kernel, bg_at 602 (by decide +kernel) (by decide +kernel)⟩, bg_at 604 (by decide +kernel) (by decide +kernel), bg_at 8 (by decide +kernel) (by decide +kernel)⟩
theorem lk_O_48 : wLv "LimbRegisters$Roots" 48 y_N_order c_N_order 3 (some .int) 1 := ⟨⟨bg_at 386 (by decide +kernel) (by decide +kernel), bg_at 43 (by decide +kernel) (by decide +kernel), ⟨by decide +kernel, by decide +kernel⟩, by decide +kernel, bg_at 606 (by decide +kernel) (by decide +kernel)⟩, bg_at 384 (by decide +kernel) (by decide +kernel), bg_at 385 (by decide +kernel) (by decide +kernel)⟩
theorem lk_O_52 : wLs "LimbRegisters$Roots" 52 y_JI_numberOfLeadingZeros c_JI_numberOfLeadingZeros 2 (some .int) 1 := ⟨⟨bg_at 408 (by decide +kernel) (by decide +kernel), bg_at 56 (by decide +kernel) (by decide +kernel), ⟨by decide +kernel, by decide +kernel⟩, by decide +kernel, bg_at 607 (by decide +kernel) (by decide +kernel)⟩, bg_at 407 (by decide +kernel) (by decide +kernel)⟩
theorem lk_O_58 : wLv "LimbRegisters$Roots" 58 y_N_takeSquare c_N_takeSquare 3 none 1 := ⟨⟨bg_at 611 (by decide +kernel) (by decide +kernel), bg_at 43 (by decide +kernel) (by decide +kernel), ⟨by decide +kernel, by decide +kernel⟩, by decide +kernel, bg_at 608 (by decide +kernel) (by decide +kernel)⟩, bg_at 609 (by decide +kernel) (by decide +kernel), bg_at 610 (by decide +kernel) (by decide +kernel)⟩
theorem lk_O_61 : wLv "LimbRegisters$Roots" 61 y_N_takeProduct c_N_takeProduct 4 none 2 := ⟨⟨bg_at 447 (by decide +kernel) (by decide +kernel), bg_at 43 (by decide +kernel) (by decide +kernel), ⟨by decide +kernel, by decide +kernel⟩, by decide +kernel, bg_at 613 (by decide +kernel) (by decide +kernel)⟩, bg_at 445 (by decide +kernel) (by decide +kernel), bg_at 446 (by decide +kernel) (by decide +kernel)⟩
theorem lk_Y_45 : wLv "LimbRegistersLaw" 45 y_L_gcd c_L_gcd 4 none 3 := ⟨⟨bg_at 620 (by decide +kernel) (by decide +kernel), bg_at 41 (by decide +kernel) (by decide +kernel), ⟨by decide +kernel, by decide +kernel⟩, by decide +kernel, bg_at 617 (by decide +kernel) (by decide +kernel)⟩, bg_at 618 (by decide +kernel) (by decide +kernel), bg_at 619 (by decide +kernel) (by decide +kernel)⟩
theorem lk_L_150 : wLv "LimbRegisters" 150 y_E_run c_E_run 4 none 2 := ⟨⟨bg_at 624 (by decide +kernel) (by decide +kernel), bg_at 48 (by decide +kernel) (by decide +kernel), ⟨by decide +kernel, by decide +kernel⟩, by decide +kernel, bg_at 621 (by decide +kernel) (by decide +kernel)⟩, bg_at 622 (by decide +kernel) (by decide +kernel), bg_at 623 (by decide +kernel) (by decide +kernel)⟩
theorem lk_E_39 : wLv "LimbRegisters$Euclid" 39 y_N_take c_N_take 4 none 1 := ⟨⟨bg_at 359 (by decide +kernel) (by decide +kernel), bg_at 43 (by decide +kernel) (by decide +kernel), ⟨by decide +kernel, by decide +kernel⟩, by decide +kernel, bg_at 625 (by decide +kernel) (by decide +kernel)⟩, bg_at 357 (by decide +kernel) (by decide +kernel), bg_at 358 (by decide +kernel) (by decide +kernel)⟩
theorem lk_E_43 : wLv "LimbRegisters$Euclid" 43 y_N_clear c_N_clear 1 none 0 := ⟨⟨bg_at 451 (by decide +kernel) (by decide +kernel), bg_at 43 (by decide +kernel) (by decide +kernel), ⟨by decide +kernel, by decide +kernel⟩, by decide +kernel, bg_at 626 (by decide +kernel) (by decide +kernel)⟩, bg_at 449 (by decide +kernel) (by decide +kernel), bg_at 450 (by decide +kernel) (by decide +kernel)⟩
theorem lk_E_46 : wLv "LimbRegisters$Euclid" 46 y_N_takeUnsigned c_N_takeUnsigned 3 none 1 := ⟨⟨bg_at 339 (by decide +kernel) (by decide +kernel), bg_at 43 (by decide +kernel) (by decide +kernel), ⟨by decide +kernel, by decide +kernel⟩, by decide +kernel, bg_at 627 (by decide +kernel) (by decide +kernel)⟩, bg_at 337 (by decide +kernel) (by decide +kernel), bg_at 338 (by decide +kernel) (by decide +kernel)⟩
theorem lk_E_50 : wLv "LimbRegisters$Euclid" 50 y_N_isZero c_N_isZero 1 (some .boolean) 0 := ⟨⟨bg_at 363 (by decide +kernel) (by decide +kernel), bg_at 43 (by decide +kernel) (by decide +kernel), ⟨by decide +kernel, by decide +kernel⟩, by decide +kernel, bg_at 628 (by decide +kernel) (by decide +kernel)⟩, bg_at 361 (by decide +kernel) (by decide +kernel), bg_at 362 (by decide +kernel) (by decide +kernel)⟩
theorem lk_E_54 : wLv "LimbRegisters$Euclid" 54 y_D_run c_D_run 6 none 2 := ⟨⟨bg_at 505 (by decide +kernel) (by decide +kernel), bg_at 45 (by decide +kernel) (by decide +kernel), ⟨by decide +kernel, by decide +kernel⟩, by decide +kernel, bg_at 629 (by decide +kernel) (by decide +kernel)⟩, bg_at 503 (by decide +kernel) (by decide +kernel), bg_at 504 (by decide +kernel) (by decide +kernel)⟩
theorem lk_E_64 : wLv "LimbRegisters$Euclid" 64 y_N_takeProduct c_N_takeProduct 4 none 2 := ⟨⟨bg_at 447 (by decide +kernel) (by decide +kernel), bg_at 43 (by decide +kernel) (by decide +kernel), ⟨by decide +kernel, by decide +kernel⟩, by decide +kernel, bg_at 630 (by decide +kernel) (by decide +kernel)⟩, bg_at 445 (by decide +kernel) (by decide +kernel), bg_at 446 (by decide +kernel) (by decide +kernel)⟩
theorem lk_E_67 : wLv "LimbRegisters$Euclid" 67 y_N_takeSum c_N_takeSum 7 none 2 := ⟨⟨bg_at 379 (by decide +kernel) (by decide +kernel), bg_at 43 (by decide +kernel) (by decide +kernel), ⟨by decide +kernel, by decide +kernel⟩, by decide +kernel, bg_at 631 (by decide +kernel) (by decide +kernel)⟩, bg_at 377 (by decide +kernel) (by decide +kernel), bg_at 378 (by decide +kernel) (by decide +kernel)⟩
theorem lk_Y_48 : wLv "LimbRegistersLaw" 48 y_L_power c_L_power 5 none 4 := ⟨⟨bg_at 638 (by decide +kernel) (by decide +kernel), bg_at 41 (by decide +kernel) (by decide +kernel), ⟨by decide +kernel, by decide +kernel⟩, by decide +kernel, bg_at 635 (by decide +kernel) (by decide +kernel)⟩, bg_at 636 (by decide +kernel) (by decide +kernel), bg_at 637 (by decide +kernel) (by decide +kernel)⟩
theorem lk_L_154 : wLv "LimbRegisters" 154 y_L_needModulus c_L_needModulus 2 none 1 := ⟨⟨bg_at 642 (by decide +kernel) (by decide +kernel), bg_at 41 (by decide +kernel) (by decide +kernel), ⟨by decide +kernel, by decide +kernel⟩, by decide +kernel, bg_at 639 (by decide +kernel) (by decide +kernel)⟩, bg_at 641 (by decide +kernel) (by decide +kernel), bg_at 9 (by decide +kernel) (by decide +kernel)⟩
theorem lk_L_159 : wLv "LimbRegisters" 159 y_S_raise c_S_raise 5 none 3 := ⟨⟨bg_at 648 (by decide +kernel) (by decide +kernel), bg_at 47 (by decide +kernel) (by decide +kernel), ⟨by decide +kernel, by decide +kernel⟩, by decide +kernel, bg_at 645 (by decide +kernel) (by decide +kernel)⟩, bg_at 646 (by decide +kernel) (by decide +kernel), bg_at 647 (by decide +kernel) (by decide +kernel)⟩
theorem lk_S_56 : wLv "LimbRegisters$Residues" 56 y_S_reduce c_S_reduce 3 none 2 := ⟨⟨bg_at 652 (by decide +kernel) (by decide +kernel), bg_at 47 (by decide +kernel) (by decide +kernel), ⟨by decide +kernel, by decide +kernel⟩, by decide +kernel, bg_at 649 (by decide +kernel) (by decide +kernel)⟩, bg_at 650 (by decide +kernel) (by decide +kernel), bg_at 651 (by decide +kernel) (by decide +kernel)⟩
theorem lk_S_34 : wLv "LimbRegisters$Residues" 34 y_D_run c_D_run 6 none 2 := ⟨⟨bg_at 505 (by decide +kernel) (by decide +kernel), bg_at 45 (by decide +kernel) (by decide +kernel), ⟨by decide +kernel, by decide +kernel⟩, by decide +kernel, bg_at 653 (by decide +kernel) (by decide +kernel)⟩, bg_at 503 (by decide +kernel) (by decide +kernel), bg_at 504 (by decide +kernel) (by decide +kernel)⟩
theorem lk_S_41 : wLv "LimbRegisters$Residues" 41 y_N_take c_N_take 4 none 1 := ⟨⟨bg_at 359 (by decide +kernel) (by decide +kernel), bg_at 43 (by decide +kernel) (by decide +kernel), ⟨by decide +kernel, by decide +kernel⟩, by decide +kernel, bg_at 654 (by decide +kernel) (by decide +kernel)⟩, bg_at 357 (by decide +kernel) (by decide +kernel), bg_at 358 (by decide +kernel) (by decide +kernel)⟩
theorem lk_S_49 : wLv "LimbRegisters$Residues" 49 y_N_isZero c_N_isZero 1 (some .boolean) 0 := ⟨⟨bg_at 363 (by decide +kernel) (by decide +kernel), bg_at 43 (by decide +kernel) (by decide +kernel), ⟨by decide +kernel, by decide +kernel⟩, by decide +kernel, bg_at 655 (by decide +kernel) (by decide +kernel)⟩, bg_at 361 (by decide +kernel) (by decide +kernel), bg_at 362 (by decide +kernel) (by decide +kernel)⟩
theorem lk_S_53 : wLv "LimbRegisters$Residues" 53 y_N_takeDifference c_N_takeDifference 7 none 2 := ⟨⟨bg_at 390 (by decide +kernel) (by decide +kernel), bg_at 43 (by decide +kernel) (by decide +kernel), ⟨by decide +kernel, by decide +kernel⟩, by decide +kernel, bg_at 656 (by decide +kernel) (by decide +kernel)⟩, bg_at 388 (by decide +kernel) (by decide +kernel), bg_at 389 (by decide +kernel) (by decide +kernel)⟩
theorem lk_S_60 : wLv "LimbRegisters$Residues" 60 y_N_takeUnsigned c_N_takeUnsigned 3 none 1 := ⟨⟨bg_at 339 (by decide +kernel) (by decide +kernel), bg_at 43 (by decide +kernel) (by decide +kernel), ⟨by decide +kernel, by decide +kernel⟩, by decide +kernel, bg_at 657 (by decide +kernel) (by decide +kernel)⟩, bg_at 337 (by decide +kernel) (by decide +kernel), bg_at 338 (by decide +kernel) (by decide +kernel)⟩
theorem lk_S_64 : wLv "LimbRegisters$Residues" 64 y_S_reduceProduct c_S_reduceProduct 2 none 1 := ⟨⟨bg_at 661 (by decide +kernel) (by decide +kernel), bg_at 47 (by decide +kernel) (by decide +kernel), ⟨by decide +kernel, by decide +kernel⟩, by decide +kernel, bg_at 658 (by decide +kernel) (by decide +kernel)⟩, bg_at 660 (by decide +kernel) (by decide +kernel), bg_at 10 (by decide +kernel) (by decide +kernel)⟩
theorem lk_S_67 : wLv "LimbRegisters$Residues" 67 y_N_length c_N_length 1 (some .int) 0 := ⟨⟨bg_at 398 (by decide +kernel) (by decide +kernel), bg_at 43 (by decide +kernel) (by decide +kernel), ⟨by decide +kernel, by decide +kernel⟩, by decide +kernel, bg_at 662 (by decide +kernel) (by decide +kernel)⟩, bg_at 396 (by decide +kernel) (by decide +kernel), bg_at 397 (by decide +kernel) (by decide +kernel)⟩
theorem lk_S_71 : wLv "LimbRegisters$Residues" 71 y_N_takeSquare c_N_takeSquare 3 none 1 := ⟨⟨bg_at 611 (by decide +kernel) (by decide +kernel), bg_at 43 (by decide +kernel) (by decide +kernel), ⟨by decide +kernel, by decide +kernel⟩, by decide +kernel, bg_at 663 (by decide +kernel) (by decide +kernel)⟩, bg_at 609 (by decide +kernel) (by decide +kernel), bg_at 610 (by decide +kernel) (by decide +kernel)⟩
theorem lk_S_74 : wLv "LimbRegisters$Residues" 74 y_N_hasBit c_N_hasBit 2 (some .boolean) 1 := ⟨⟨bg_at 667 (by decide +kernel) (by decide +kernel), bg_at 43 (by decide +kernel) (by decide +kernel), ⟨by decide +kernel, by decide +kernel⟩, by decide +kernel, bg_at 664 (by decide +kernel) (by decide +kernel)⟩, bg_at 665 (by decide +kernel) (by decide +kernel), bg_at 666 (by decide +kernel) (by decide +kernel)⟩
theorem lk_S_78 : wLv "LimbRegisters$Residues" 78 y_N_takeProduct c_N_takeProduct 4 none 2 := ⟨⟨bg_at 447 (by decide +kernel) (by decide +kernel), bg_at 43 (by decide +kernel) (by decide +kernel), ⟨by decide +kernel, by decide +kernel⟩, by decide +kernel, bg_at 668 (by decide +kernel) (by decide +kernel)⟩, bg_at 445 (by decide +kernel) (by decide +kernel), bg_at 446 (by decide +kernel) (by decide +kernel)⟩
theorem lk_Y_52 : wLv "LimbRegistersLaw" 52 y_L_inverse c_L_inverse 4 none 3 := ⟨⟨bg_at 676 (by decide +kernel) (by decide +kernel), bg_at 41 (by decide +kernel) (by decide +kernel), ⟨by decide +kernel, by decide +kernel⟩, by decide +kernel, bg_at 673 (by decide +kernel) (by decide +kernel)⟩, bg_at 674 (by decide +kernel) (by decide +kernel), bg_at 675 (by decide +kernel) (by decide +kernel)⟩
theorem lk_L_164 : wLv "LimbRegisters" 164 y_S_reduce c_S_reduce 3 none 2 := ⟨⟨bg_at 652 (by decide +kernel) (by decide +kernel), bg_at 47 (by decide +kernel) (by decide +kernel), ⟨by decide +kernel, by decide +kernel⟩, by decide +kernel, bg_at 677 (by decide +kernel) (by decide +kernel)⟩, bg_at 650 (by decide +kernel) (by decide +kernel), bg_at 651 (by decide +kernel) (by decide +kernel)⟩
theorem lk_L_168 : wLv "LimbRegisters" 168 y_N_isOne c_N_isOne 1 (some .boolean) 0 := ⟨⟨bg_at 681 (by decide +kernel) (by decide +kernel), bg_at 43 (by decide +kernel) (by decide +kernel), ⟨by decide +kernel, by decide +kernel⟩, by decide +kernel, bg_at 678 (by decide +kernel) (by decide +kernel)⟩, bg_at 679 (by decide +kernel) (by decide +kernel), bg_at 680 (by decide +kernel) (by decide +kernel)⟩
theorem lk_L_176 : wLv "LimbRegisters" 176 y_E_bringFactorWithin c_E_bringFactorWithin 2 none 1 := ⟨⟨bg_at 701 (by decide +kernel) (by decide +kernel), bg_at 48 (by decide +kernel) (by decide +kernel), ⟨by decide +kernel, by decide +kernel⟩, by decide +kernel, bg_at 698 (by decide +kernel) (by decide +kernel)⟩, bg_at 699 (by decide +kernel) (by decide +kernel), bg_at 700 (by decide +kernel) (by decide +kernel)⟩
theorem lk_E_70 : wLv "LimbRegisters$Euclid" 70 y_N_takeDifference c_N_takeDifference 7 none 2 := ⟨⟨bg_at 390 (by decide +kernel) (by decide +kernel), bg_at 43 (by decide +kernel) (by decide +kernel), ⟨by decide +kernel, by decide +kernel⟩, by decide +kernel, bg_at 702 (by decide +kernel) (by decide +kernel)⟩, bg_at 388 (by decide +kernel) (by decide +kernel), bg_at 389 (by decide +kernel) (by decide +kernel)⟩
theorem lk_Y_57 : wLv "LimbRegistersLaw" 57 y_L_compare c_L_compare 3 (some .int) 2 := ⟨⟨bg_at 709 (by decide +kernel) (by decide +kernel), bg_at 41 (by decide +kernel) (by decide +kernel), ⟨by decide +kernel, by decide +kernel⟩, by decide +kernel, bg_at 706 (by decide +kernel) (by decide +kernel)⟩, bg_at 707 (by decide +kernel) (by decide +kernel), bg_at 708 (by decide +kernel) (by decide +kernel)⟩
theorem lk_L_182 : wLv "LimbRegisters" 182 y_W_order c_W_order 2 (some .int) 1 := ⟨⟨bg_at 713 (by decide +kernel) (by decide +kernel), bg_at 42 (by decide +kernel) (by decide +kernel), ⟨by decide +kernel, by decide +kernel⟩, by decide +kernel, bg_at 710 (by decide +kernel) (by decide +kernel)⟩, bg_at 711 (by decide +kernel) (by decide +kernel), bg_at 712 (by decide +kernel) (by decide +kernel)⟩
theorem lk_Y_61 : wLv "LimbRegistersLaw" 61 y_L_bits c_L_bits 2 (some .int) 1 := ⟨⟨bg_at 720 (by decide +kernel) (by decide +kernel), bg_at 41 (by decide +kernel) (by decide +kernel), ⟨by decide +kernel, by decide +kernel⟩, by decide +kernel, bg_at 717 (by decide +kernel) (by decide +kernel)⟩, bg_at 718 (by decide +kernel) (by decide +kernel), bg_at 719 (by decide +kernel) (by decide +kernel)⟩
theorem lk_Y_65 : wLv "LimbRegistersLaw" 65 y_L_bit c_L_bit 3 (some .boolean) 2 := ⟨⟨bg_at 727 (by decide +kernel) (by decide +kernel), bg_at 41 (by decide +kernel) (by decide +kernel), ⟨by decide +kernel, by decide +kernel⟩, by decide +kernel, bg_at 724 (by decide +kernel) (by decide +kernel)⟩, bg_at 725 (by decide +kernel) (by decide +kernel), bg_at 726 (by decide +kernel) (by decide +kernel)⟩
theorem lk_L_191 : wLv "LimbRegisters" 191 y_W_isOddAfter c_W_isOddAfter 2 (some .boolean) 1 := ⟨⟨bg_at 732 (by decide +kernel) (by decide +kernel), bg_at 42 (by decide +kernel) (by decide +kernel), ⟨by decide +kernel, by decide +kernel⟩, by decide +kernel, bg_at 729 (by decide +kernel) (by decide +kernel)⟩, bg_at 730 (by decide +kernel) (by decide +kernel), bg_at 731 (by decide +kernel) (by decide +kernel)⟩
theorem lk_W_60 : wLv "LimbRegisters$Whole" 60 y_N_hasBit c_N_hasBit 2 (some .boolean) 1 := ⟨⟨bg_at 667 (by decide +kernel) (by decide +kernel), bg_at 43 (by decide +kernel) (by decide +kernel), ⟨by decide +kernel, by decide +kernel⟩, by decide +kernel, bg_at 733 (by decide +kernel) (by decide +kernel)⟩, bg_at 665 (by decide +kernel) (by decide +kernel), bg_at 666 (by decide +kernel) (by decide +kernel)⟩
theorem lk_Y_69 : wLv "LimbRegistersLaw" 69 y_L_low c_L_low 4 (some .long) 1 := ⟨⟨bg_at 740 (by decide +kernel) (by decide +kernel), bg_at 41 (by decide +kernel) (by decide +kernel), ⟨by decide +kernel, by decide +kernel⟩, by decide +kernel, bg_at 737 (by decide +kernel) (by decide +kernel)⟩, bg_at 738 (by decide +kernel) (by decide +kernel), bg_at 739 (by decide +kernel) (by decide +kernel)⟩
theorem lk_L_195 : wLv "LimbRegisters" 195 y_N_lowLong c_N_lowLong 1 (some .long) 0 := ⟨⟨bg_at 744 (by decide +kernel) (by decide +kernel), bg_at 43 (by decide +kernel) (by decide +kernel), ⟨by decide +kernel, by decide +kernel⟩, by decide +kernel, bg_at 741 (by decide +kernel) (by decide +kernel)⟩, bg_at 742 (by decide +kernel) (by decide +kernel), bg_at 743 (by decide +kernel) (by decide +kernel)⟩
theorem lk_Y_73 : wLv "LimbRegistersLaw" 73 y_L_type c_L_type 4 (some .int) 2 := ⟨⟨bg_at 752 (by decide +kernel) (by decide +kernel), bg_at 41 (by decide +kernel) (by decide +kernel), ⟨by decide +kernel, by decide +kernel⟩, by decide +kernel, bg_at 749 (by decide +kernel) (by decide +kernel)⟩, bg_at 750 (by decide +kernel) (by decide +kernel), bg_at 751 (by decide +kernel) (by decide +kernel)⟩
theorem lk_L_201 : wLs "LimbRegisters" 201 y_T_areCharacters c_T_areCharacters 5 (some .boolean) 2 := ⟨⟨bg_at 756 (by decide +kernel) (by decide +kernel), bg_at 44 (by decide +kernel) (by decide +kernel), ⟨by decide +kernel, by decide +kernel⟩, by decide +kernel, bg_at 754 (by decide +kernel) (by decide +kernel)⟩, bg_at 755 (by decide +kernel) (by decide +kernel)⟩
theorem lk_T_19 : wLs "LimbRegisters$Text" 19 y_T_codeIn c_T_codeIn 3 (some .int) 2 := ⟨⟨bg_at 759 (by decide +kernel) (by decide +kernel), bg_at 44 (by decide +kernel) (by decide +kernel), ⟨by decide +kernel, by decide +kernel⟩, by decide +kernel, bg_at 757 (by decide +kernel) (by decide +kernel)⟩, bg_at 758 (by decide +kernel) (by decide +kernel)⟩
theorem lk_L_216 : wLv "LimbRegisters" 216 y_T_appendAll c_T_appendAll 5 none 2 := ⟨⟨bg_at 780 (by decide +kernel) (by decide +kernel), bg_at 44 (by decide +kernel) (by decide +kernel), ⟨by decide +kernel, by decide +kernel⟩, by decide +kernel, bg_at 777 (by decide +kernel) (by decide +kernel)⟩, bg_at 778 (by decide +kernel) (by decide +kernel), bg_at 779 (by decide +kernel) (by decide +kernel)⟩
theorem lk_T_23 : wLv "LimbRegisters$Text" 23 y_T_append c_T_append 2 none 1 := ⟨⟨bg_at 784 (by decide +kernel) (by decide +kernel), bg_at 44 (by decide +kernel) (by decide +kernel), ⟨by decide +kernel, by decide +kernel⟩, by decide +kernel, bg_at 781 (by decide +kernel) (by decide +kernel)⟩, bg_at 783 (by decide +kernel) (by decide +kernel), bg_at 11 (by decide +kernel) (by decide +kernel)⟩
theorem lk_Y_79 : wLv "LimbRegistersLaw" 79 y_L_parse c_L_parse 4 (some .int) 2 := ⟨⟨bg_at 791 (by decide +kernel) (by decide +kernel), bg_at 41 (by decide +kernel) (by decide +kernel), ⟨by decide +kernel, by decide +kernel⟩, by decide +kernel, bg_at 788 (by decide +kernel) (by decide +kernel)⟩, bg_at 789 (by decide +kernel) (by decide +kernel), bg_at 790 (by decide +kernel) (by decide +kernel)⟩
theorem lk_L_220 : wLs "LimbRegisters" 220 y_L_needRadix c_L_needRadix 1 none 1 := ⟨⟨bg_at 794 (by decide +kernel) (by decide +kernel), bg_at 41 (by decide +kernel) (by decide +kernel), ⟨by decide +kernel, by decide +kernel⟩, by decide +kernel, bg_at 792 (by decide +kernel) (by decide +kernel)⟩, bg_at 793 (by decide +kernel) (by decide +kernel)⟩
theorem lk_L_223 : wLv "LimbRegisters" 223 y_T_isNumeral c_T_isNumeral 5 (some .boolean) 1 := ⟨⟨bg_at 799 (by decide +kernel) (by decide +kernel), bg_at 44 (by decide +kernel) (by decide +kernel), ⟨by decide +kernel, by decide +kernel⟩, by decide +kernel, bg_at 796 (by decide +kernel) (by decide +kernel)⟩, bg_at 797 (by decide +kernel) (by decide +kernel), bg_at 798 (by decide +kernel) (by decide +kernel)⟩
theorem lk_T_27 : wLv "LimbRegisters$Text" 27 y_T_signs c_T_signs 1 (some .int) 0 := ⟨⟨bg_at 803 (by decide +kernel) (by decide +kernel), bg_at 44 (by decide +kernel) (by decide +kernel), ⟨by decide +kernel, by decide +kernel⟩, by decide +kernel, bg_at 800 (by decide +kernel) (by decide +kernel)⟩, bg_at 801 (by decide +kernel) (by decide +kernel), bg_at 802 (by decide +kernel) (by decide +kernel)⟩
theorem lk_T_31 : wLs "LimbRegisters$Text" 31 y_T_digitOf c_T_digitOf 1 (some .int) 1 := ⟨⟨bg_at 806 (by decide +kernel) (by decide +kernel), bg_at 44 (by decide +kernel) (by decide +kernel), ⟨by decide +kernel, by decide +kernel⟩, by decide +kernel, bg_at 804 (by decide +kernel) (by decide +kernel)⟩, bg_at 805 (by decide +kernel) (by decide +kernel)⟩
theorem lk_L_228 : wLv "LimbRegisters" 228 y_T_readNumeral c_T_readNumeral 4 none 2 := ⟨⟨bg_at 811 (by decide +kernel) (by decide +kernel), bg_at 44 (by decide +kernel) (by decide +kernel), ⟨by decide +kernel, by decide +kernel⟩, by decide +kernel, bg_at 808 (by decide +kernel) (by decide +kernel)⟩, bg_at 809 (by decide +kernel) (by decide +kernel), bg_at 810 (by decide +kernel) (by decide +kernel)⟩
theorem lk_T_35 : wLv "LimbRegisters$Text" 35 y_W_takeLong c_W_takeLong 3 none 1 := ⟨⟨bg_at 335 (by decide +kernel) (by decide +kernel), bg_at 42 (by decide +kernel) (by decide +kernel), ⟨by decide +kernel, by decide +kernel⟩, by decide +kernel, bg_at 812 (by decide +kernel) (by decide +kernel)⟩, bg_at 333 (by decide +kernel) (by decide +kernel), bg_at 334 (by decide +kernel) (by decide +kernel)⟩
theorem lk_T_45 : wLv "LimbRegisters$Text" 45 y_N_length c_N_length 1 (some .int) 0 := ⟨⟨bg_at 398 (by decide +kernel) (by decide +kernel), bg_at 43 (by decide +kernel) (by decide +kernel), ⟨by decide +kernel, by decide +kernel⟩, by decide +kernel, bg_at 813 (by decide +kernel) (by decide +kernel)⟩, bg_at 396 (by decide +kernel) (by decide +kernel), bg_at 397 (by decide +kernel) (by decide +kernel)⟩
theorem lk_T_50 : wLv "LimbRegisters$Text" 50 y_N_pushDigit c_N_pushDigit 7 none 2 := ⟨⟨bg_at 817 (by decide +kernel) (by decide +kernel), bg_at 43 (by decide +kernel) (by decide +kernel), ⟨by decide +kernel, by decide +kernel⟩, by decide +kernel, bg_at 814 (by decide +kernel) (by decide +kernel)⟩, bg_at 815 (by decide +kernel) (by decide +kernel), bg_at 816 (by decide +kernel) (by decide +kernel)⟩
theorem lk_T_54 : wLv "LimbRegisters$Text" 54 y_N_isZero c_N_isZero 1 (some .boolean) 0 := ⟨⟨bg_at 363 (by decide +kernel) (by decide +kernel), bg_at 43 (by decide +kernel) (by decide +kernel), ⟨by decide +kernel, by decide +kernel⟩, by decide +kernel, bg_at 818 (by decide +kernel) (by decide +kernel)⟩, bg_at 361 (by decide +kernel) (by decide +kernel), bg_at 362 (by decide +kernel) (by decide +kernel)⟩
theorem lk_L_231 : wLv "LimbRegisters" 231 y_T_signs c_T_signs 1 (some .int) 0 := ⟨⟨bg_at 803 (by decide +kernel) (by decide +kernel), bg_at 44 (by decide +kernel) (by decide +kernel), ⟨by decide +kernel, by decide +kernel⟩, by decide +kernel, bg_at 819 (by decide +kernel) (by decide +kernel)⟩, bg_at 801 (by decide +kernel) (by decide +kernel), bg_at 802 (by decide +kernel) (by decide +kernel)⟩
theorem lk_Y_82 : wLv "LimbRegistersLaw" 82 y_L_print c_L_print 3 (some .int) 2 := ⟨⟨bg_at 826 (by decide +kernel) (by decide +kernel), bg_at 41 (by decide +kernel) (by decide +kernel), ⟨by decide +kernel, by decide +kernel⟩, by decide +kernel, bg_at 823 (by decide +kernel) (by decide +kernel)⟩, bg_at 824 (by decide +kernel) (by decide +kernel), bg_at 825 (by decide +kernel) (by decide +kernel)⟩
theorem lk_L_234 : wLv "LimbRegisters" 234 y_T_writeNumeral c_T_writeNumeral 5 none 2 := ⟨⟨bg_at 830 (by decide +kernel) (by decide +kernel), bg_at 44 (by decide +kernel) (by decide +kernel), ⟨by decide +kernel, by decide +kernel⟩, by decide +kernel, bg_at 827 (by decide +kernel) (by decide +kernel)⟩, bg_at 828 (by decide +kernel) (by decide +kernel), bg_at 829 (by decide +kernel) (by decide +kernel)⟩
theorem lk_T_62 : wLv "LimbRegisters$Text" 62 y_N_popDigit c_N_popDigit 7 (some .int) 1 := ⟨⟨bg_at 834 (by decide +kernel) (by decide +kernel), bg_at 43 (by decide +kernel) (by decide +kernel), ⟨by decide +kernel, by decide +kernel⟩, by decide +kernel, bg_at 831 (by decide +kernel) (by decide +kernel)⟩, bg_at 832 (by decide +kernel) (by decide +kernel), bg_at 833 (by decide +kernel) (by decide +kernel)⟩
theorem lk_T_65 : wLs "LimbRegisters$Text" 65 y_T_codeOf c_T_codeOf 1 (some .int) 1 := ⟨⟨bg_at 838 (by decide +kernel) (by decide +kernel), bg_at 44 (by decide +kernel) (by decide +kernel), ⟨by decide +kernel, by decide +kernel⟩, by decide +kernel, bg_at 836 (by decide +kernel) (by decide +kernel)⟩, bg_at 837 (by decide +kernel) (by decide +kernel)⟩
theorem lk_T_68 : wLv "LimbRegisters$Text" 68 y_T_reverse c_T_reverse 4 none 0 := ⟨⟨bg_at 842 (by decide +kernel) (by decide +kernel), bg_at 44 (by decide +kernel) (by decide +kernel), ⟨by decide +kernel, by decide +kernel⟩, by decide +kernel, bg_at 839 (by decide +kernel) (by decide +kernel)⟩, bg_at 841 (by decide +kernel) (by decide +kernel), bg_at 12 (by decide +kernel) (by decide +kernel)⟩
theorem lk_Y_85 : wLv "LimbRegistersLaw" 85 y_L_character c_L_character 2 (some .int) 1 := ⟨⟨bg_at 849 (by decide +kernel) (by decide +kernel), bg_at 41 (by decide +kernel) (by decide +kernel), ⟨by decide +kernel, by decide +kernel⟩, by decide +kernel, bg_at 846 (by decide +kernel) (by decide +kernel)⟩, bg_at 847 (by decide +kernel) (by decide +kernel), bg_at 848 (by decide +kernel) (by decide +kernel)⟩
theorem lk_Y_100 : wLv "LimbRegistersLaw" 100 y_M_thrown c_M_thrown 1 (some .int) 0 := ⟨⟨bg_at 880 (by decide +kernel) (by decide +kernel), bg_at 49 (by decide +kernel) (by decide +kernel), ⟨by decide +kernel, by decide +kernel⟩, by decide +kernel, bg_at 877 (by decide +kernel) (by decide +kernel)⟩, bg_at 878 (by decide +kernel) (by decide +kernel), bg_at 879 (by decide +kernel) (by decide +kernel)⟩
theorem lk_Y_99 : wLv "LimbRegistersLaw" 99 y_M_set c_M_set 7 none 2 := ⟨⟨bg_at 884 (by decide +kernel) (by decide +kernel), bg_at 49 (by decide +kernel) (by decide +kernel), ⟨by decide +kernel, by decide +kernel⟩, by decide +kernel, bg_at 881 (by decide +kernel) (by decide +kernel)⟩, bg_at 882 (by decide +kernel) (by decide +kernel), bg_at 883 (by decide +kernel) (by decide +kernel)⟩
theorem lk_M_66 : wLs "LimbRegistersModel" 66 y_M_is c_M_is 1 (some .boolean) 1 := ⟨⟨bg_at 887 (by decide +kernel) (by decide +kernel), bg_at 49 (by decide +kernel) (by decide +kernel), ⟨by decide +kernel, by decide +kernel⟩, by decide +kernel, bg_at 885 (by decide +kernel) (by decide +kernel)⟩, bg_at 886 (by decide +kernel) (by decide +kernel)⟩
theorem lk_M_26 : wLv "LimbRegistersModel" 26 y_M_clear c_M_clear 3 none 1 := ⟨⟨bg_at 891 (by decide +kernel) (by decide +kernel), bg_at 49 (by decide +kernel) (by decide +kernel), ⟨by decide +kernel, by decide +kernel⟩, by decide +kernel, bg_at 888 (by decide +kernel) (by decide +kernel)⟩, bg_at 890 (by decide +kernel) (by decide +kernel), bg_at 13 (by decide +kernel) (by decide +kernel)⟩
theorem lk_M_30 : wLv "LimbRegistersModel" 30 y_M_trim c_M_trim 3 none 1 := ⟨⟨bg_at 896 (by decide +kernel) (by decide +kernel), bg_at 49 (by decide +kernel) (by decide +kernel), ⟨by decide +kernel, by decide +kernel⟩, by decide +kernel, bg_at 893 (by decide +kernel) (by decide +kernel)⟩, bg_at 895 (by decide +kernel) (by decide +kernel), bg_at 14 (by decide +kernel) (by decide +kernel)⟩
theorem lk_M_73 : wLv "LimbRegistersModel" 73 y_M_store c_M_store 4 none 3 := ⟨⟨bg_at 900 (by decide +kernel) (by decide +kernel), bg_at 49 (by decide +kernel) (by decide +kernel), ⟨by decide +kernel, by decide +kernel⟩, by decide +kernel, bg_at 897 (by decide +kernel) (by decide +kernel)⟩, bg_at 899 (by decide +kernel) (by decide +kernel), bg_at 15 (by decide +kernel) (by decide +kernel)⟩
theorem lk_M_40 : wLv "LimbRegistersModel" 40 y_M_move c_M_move 4 none 2 := ⟨⟨bg_at 904 (by decide +kernel) (by decide +kernel), bg_at 49 (by decide +kernel) (by decide +kernel), ⟨by decide +kernel, by decide +kernel⟩, by decide +kernel, bg_at 901 (by decide +kernel) (by decide +kernel)⟩, bg_at 903 (by decide +kernel) (by decide +kernel), bg_at 16 (by decide +kernel) (by decide +kernel)⟩
theorem lk_Y_107 : wLv "LimbRegistersLaw" 107 y_M_copy c_M_copy 4 none 3 := ⟨⟨bg_at 908 (by decide +kernel) (by decide +kernel), bg_at 49 (by decide +kernel) (by decide +kernel), ⟨by decide +kernel, by decide +kernel⟩, by decide +kernel, bg_at 905 (by decide +kernel) (by decide +kernel)⟩, bg_at 906 (by decide +kernel) (by decide +kernel), bg_at 907 (by decide +kernel) (by decide +kernel)⟩
theorem lk_M_76 : wLv "LimbRegistersModel" 76 y_M_three c_M_three 4 (some .boolean) 3 := ⟨⟨bg_at 912 (by decide +kernel) (by decide +kernel), bg_at 49 (by decide +kernel) (by decide +kernel), ⟨by decide +kernel, by decide +kernel⟩, by decide +kernel, bg_at 909 (by decide +kernel) (by decide +kernel)⟩, bg_at 911 (by decide +kernel) (by decide +kernel), bg_at 17 (by decide +kernel) (by decide +kernel)⟩
theorem lk_Y_111 : wLv "LimbRegistersLaw" 111 y_M_add c_M_add 4 none 3 := ⟨⟨bg_at 916 (by decide +kernel) (by decide +kernel), bg_at 49 (by decide +kernel) (by decide +kernel), ⟨by decide +kernel, by decide +kernel⟩, by decide +kernel, bg_at 913 (by decide +kernel) (by decide +kernel)⟩, bg_at 914 (by decide +kernel) (by decide +kernel), bg_at 915 (by decide +kernel) (by decide +kernel)⟩
theorem lk_M_90 : wLv "LimbRegistersModel" 90 y_M_join c_M_join 6 none 4 := ⟨⟨bg_at 920 (by decide +kernel) (by decide +kernel), bg_at 49 (by decide +kernel) (by decide +kernel), ⟨by decide +kernel, by decide +kernel⟩, by decide +kernel, bg_at 917 (by decide +kernel) (by decide +kernel)⟩, bg_at 919 (by decide +kernel) (by decide +kernel), bg_at 18 (by decide +kernel) (by decide +kernel)⟩
theorem lk_M_79 : wLv "LimbRegistersModel" 79 y_M_order c_M_order 6 (some .int) 2 := ⟨⟨bg_at 924 (by decide +kernel) (by decide +kernel), bg_at 49 (by decide +kernel) (by decide +kernel), ⟨by decide +kernel, by decide +kernel⟩, by decide +kernel, bg_at 921 (by decide +kernel) (by decide +kernel)⟩, bg_at 923 (by decide +kernel) (by decide +kernel), bg_at 19 (by decide +kernel) (by decide +kernel)⟩
theorem lk_M_83 : wLv "LimbRegistersModel" 83 y_M_plus c_M_plus 7 none 3 := ⟨⟨bg_at 928 (by decide +kernel) (by decide +kernel), bg_at 49 (by decide +kernel) (by decide +kernel), ⟨by decide +kernel, by decide +kernel⟩, by decide +kernel, bg_at 925 (by decide +kernel) (by decide +kernel)⟩, bg_at 927 (by decide +kernel) (by decide +kernel), bg_at 20 (by decide +kernel) (by decide +kernel)⟩
theorem lk_M_86 : wLv "LimbRegistersModel" 86 y_M_finish c_M_finish 5 none 4 := ⟨⟨bg_at 933 (by decide +kernel) (by decide +kernel), bg_at 49 (by decide +kernel) (by decide +kernel), ⟨by decide +kernel, by decide +kernel⟩, by decide +kernel, bg_at 930 (by decide +kernel) (by decide +kernel)⟩, bg_at 932 (by decide +kernel) (by decide +kernel), bg_at 21 (by decide +kernel) (by decide +kernel)⟩
theorem lk_M_70 : wLv "LimbRegistersModel" 70 y_M_isGreat c_M_isGreat 2 (some .boolean) 1 := ⟨⟨bg_at 937 (by decide +kernel) (by decide +kernel), bg_at 49 (by decide +kernel) (by decide +kernel), ⟨by decide +kernel, by decide +kernel⟩, by decide +kernel, bg_at 934 (by decide +kernel) (by decide +kernel)⟩, bg_at 936 (by decide +kernel) (by decide +kernel), bg_at 22 (by decide +kernel) (by decide +kernel)⟩
theorem lk_M_59 : wLv "LimbRegistersModel" 59 y_M_minus c_M_minus 7 none 3 := ⟨⟨bg_at 941 (by decide +kernel) (by decide +kernel), bg_at 49 (by decide +kernel) (by decide +kernel), ⟨by decide +kernel, by decide +kernel⟩, by decide +kernel, bg_at 938 (by decide +kernel) (by decide +kernel)⟩, bg_at 940 (by decide +kernel) (by decide +kernel), bg_at 23 (by decide +kernel) (by decide +kernel)⟩
theorem lk_Y_114 : wLv "LimbRegistersLaw" 114 y_M_subtract c_M_subtract 4 none 3 := ⟨⟨bg_at 945 (by decide +kernel) (by decide +kernel), bg_at 49 (by decide +kernel) (by decide +kernel), ⟨by decide +kernel, by decide +kernel⟩, by decide +kernel, bg_at 942 (by decide +kernel) (by decide +kernel)⟩, bg_at 943 (by decide +kernel) (by decide +kernel), bg_at 944 (by decide +kernel) (by decide +kernel)⟩
theorem lk_Y_117 : wLv "LimbRegistersLaw" 117 y_M_multiply c_M_multiply 4 none 3 := ⟨⟨bg_at 949 (by decide +kernel) (by decide +kernel), bg_at 49 (by decide +kernel) (by decide +kernel), ⟨by decide +kernel, by decide +kernel⟩, by decide +kernel, bg_at 946 (by decide +kernel) (by decide +kernel)⟩, bg_at 947 (by decide +kernel) (by decide +kernel), bg_at 948 (by decide +kernel) (by decide +kernel)⟩
theorem lk_M_63 : wLv "LimbRegistersModel" 63 y_M_times c_M_times 10 none 3 := ⟨⟨bg_at 953 (by decide +kernel) (by decide +kernel), bg_at 49 (by decide +kernel) (by decide +kernel), ⟨by decide +kernel, by decide +kernel⟩, by decide +kernel, bg_at 950 (by decide +kernel) (by decide +kernel)⟩, bg_at 952 (by decide +kernel) (by decide +kernel), bg_at 24 (by decide +kernel) (by decide +kernel)⟩
theorem lk_Y_121 : wLv "LimbRegistersLaw" 121 y_M_divide c_M_divide 8 none 5 := ⟨⟨bg_at 957 (by decide +kernel) (by decide +kernel), bg_at 49 (by decide +kernel) (by decide +kernel), ⟨by decide +kernel, by decide +kernel⟩, by decide +kernel, bg_at 954 (by decide +kernel) (by decide +kernel)⟩, bg_at 955 (by decide +kernel) (by decide +kernel), bg_at 956 (by decide +kernel) (by decide +kernel)⟩
theorem lk_M_56 : wLv "LimbRegistersModel" 56 y_M_split c_M_split 10 none 2 := ⟨⟨bg_at 961 (by decide +kernel) (by decide +kernel), bg_at 49 (by decide +kernel) (by decide +kernel), ⟨by decide +kernel, by decide +kernel⟩, by decide +kernel, bg_at 958 (by decide +kernel) (by decide +kernel)⟩, bg_at 960 (by decide +kernel) (by decide +kernel), bg_at 25 (by decide +kernel) (by decide +kernel)⟩
theorem lk_M_44 : wLv "LimbRegistersModel" 44 y_M_guess c_M_guess 8 (some .long) 3 := ⟨⟨bg_at 965 (by decide +kernel) (by decide +kernel), bg_at 49 (by decide +kernel) (by decide +kernel), ⟨by decide +kernel, by decide +kernel⟩, by decide +kernel, bg_at 962 (by decide +kernel) (by decide +kernel)⟩, bg_at 964 (by decide +kernel) (by decide +kernel), bg_at 26 (by decide +kernel) (by decide +kernel)⟩
theorem lk_M_36 : wLv "LimbRegistersModel" 36 y_M_restAt c_M_restAt 2 (some .long) 1 := ⟨⟨bg_at 969 (by decide +kernel) (by decide +kernel), bg_at 49 (by decide +kernel) (by decide +kernel), ⟨by decide +kernel, by decide +kernel⟩, by decide +kernel, bg_at 966 (by decide +kernel) (by decide +kernel)⟩, bg_at 968 (by decide +kernel) (by decide +kernel), bg_at 27 (by decide +kernel) (by decide +kernel)⟩
theorem lk_M_48 : wLv "LimbRegistersModel" 48 y_M_goes c_M_goes 7 (some .boolean) 3 := ⟨⟨bg_at 973 (by decide +kernel) (by decide +kernel), bg_at 49 (by decide +kernel) (by decide +kernel), ⟨by decide +kernel, by decide +kernel⟩, by decide +kernel, bg_at 970 (by decide +kernel) (by decide +kernel)⟩, bg_at 972 (by decide +kernel) (by decide +kernel), bg_at 28 (by decide +kernel) (by decide +kernel)⟩
theorem lk_M_52 : wLv "LimbRegistersModel" 52 y_M_takeAway c_M_takeAway 11 none 4 := ⟨⟨bg_at 977 (by decide +kernel) (by decide +kernel), bg_at 49 (by decide +kernel) (by decide +kernel), ⟨by decide +kernel, by decide +kernel⟩, by decide +kernel, bg_at 974 (by decide +kernel) (by decide +kernel)⟩, bg_at 976 (by decide +kernel) (by decide +kernel), bg_at 29 (by decide +kernel) (by decide +kernel)⟩
theorem lk_M_93 : wLv "LimbRegistersModel" 93 y_M_small c_M_small 3 none 2 := ⟨⟨bg_at 981 (by decide +kernel) (by decide +kernel), bg_at 49 (by decide +kernel) (by decide +kernel), ⟨by decide +kernel, by decide +kernel⟩, by decide +kernel, bg_at 978 (by decide +kernel) (by decide +kernel)⟩, bg_at 980 (by decide +kernel) (by decide +kernel), bg_at 30 (by decide +kernel) (by decide +kernel)⟩
theorem lk_Y_124 : wLv "LimbRegistersLaw" 124 y_M_shift c_M_shift 6 none 3 := ⟨⟨bg_at 985 (by decide +kernel) (by decide +kernel), bg_at 49 (by decide +kernel) (by decide +kernel), ⟨by decide +kernel, by decide +kernel⟩, by decide +kernel, bg_at 982 (by decide +kernel) (by decide +kernel)⟩, bg_at 983 (by decide +kernel) (by decide +kernel), bg_at 984 (by decide +kernel) (by decide +kernel)⟩
theorem lk_M_96 : wLv "LimbRegistersModel" 96 y_M_bitsOf c_M_bitsOf 4 (some .int) 1 := ⟨⟨bg_at 989 (by decide +kernel) (by decide +kernel), bg_at 49 (by decide +kernel) (by decide +kernel), ⟨by decide +kernel, by decide +kernel⟩, by decide +kernel, bg_at 986 (by decide +kernel) (by decide +kernel)⟩, bg_at 988 (by decide +kernel) (by decide +kernel), bg_at 31 (by decide +kernel) (by decide +kernel)⟩
theorem lk_M_109 : wLv "LimbRegistersModel" 109 y_M_slide c_M_slide 7 (some .boolean) 2 := ⟨⟨bg_at 994 (by decide +kernel) (by decide +kernel), bg_at 49 (by decide +kernel) (by decide +kernel), ⟨by decide +kernel, by decide +kernel⟩, by decide +kernel, bg_at 991 (by decide +kernel) (by decide +kernel)⟩, bg_at 993 (by decide +kernel) (by decide +kernel), bg_at 32 (by decide +kernel) (by decide +kernel)⟩
theorem lk_M_100 : wLv "LimbRegistersModel" 100 y_M_bitOf c_M_bitOf 3 (some .boolean) 2 := ⟨⟨bg_at 998 (by decide +kernel) (by decide +kernel), bg_at 49 (by decide +kernel) (by decide +kernel), ⟨by decide +kernel, by decide +kernel⟩, by decide +kernel, bg_at 995 (by decide +kernel) (by decide +kernel)⟩, bg_at 997 (by decide +kernel) (by decide +kernel), bg_at 33 (by decide +kernel) (by decide +kernel)⟩
theorem lk_M_104 : wLv "LimbRegistersModel" 104 y_M_raise c_M_raise 3 none 2 := ⟨⟨bg_at 1002 (by decide +kernel) (by decide +kernel), bg_at 49 (by decide +kernel) (by decide +kernel), ⟨by decide +kernel, by decide +kernel⟩, by decide +kernel, bg_at 999 (by decide +kernel) (by decide +kernel)⟩, bg_at 1001 (by decide +kernel) (by decide +kernel), bg_at 34 (by decide +kernel) (by decide +kernel)⟩
theorem lk_Y_127 : wLv "LimbRegistersLaw" 127 y_M_root c_M_root 5 none 3 := ⟨⟨bg_at 1006 (by decide +kernel) (by decide +kernel), bg_at 49 (by decide +kernel) (by decide +kernel), ⟨by decide +kernel, by decide +kernel⟩, by decide +kernel, bg_at 1003 (by decide +kernel) (by decide +kernel)⟩, bg_at 1004 (by decide +kernel) (by decide +kernel), bg_at 1005 (by decide +kernel) (by decide +kernel)⟩
theorem lk_M_112 : wLv "LimbRegistersModel" 112 y_M_fits c_M_fits 4 (some .boolean) 2 := ⟨⟨bg_at 1010 (by decide +kernel) (by decide +kernel), bg_at 49 (by decide +kernel) (by decide +kernel), ⟨by decide +kernel, by decide +kernel⟩, by decide +kernel, bg_at 1007 (by decide +kernel) (by decide +kernel)⟩, bg_at 1009 (by decide +kernel) (by decide +kernel), bg_at 35 (by decide +kernel) (by decide +kernel)⟩
theorem lk_Y_130 : wLv "LimbRegistersLaw" 130 y_M_gcd c_M_gcd 4 none 3 := ⟨⟨bg_at 1014 (by decide +kernel) (by decide +kernel), bg_at 49 (by decide +kernel) (by decide +kernel), ⟨by decide +kernel, by decide +kernel⟩, by decide +kernel, bg_at 1011 (by decide +kernel) (by decide +kernel)⟩, bg_at 1012 (by decide +kernel) (by decide +kernel), bg_at 1013 (by decide +kernel) (by decide +kernel)⟩
theorem lk_Y_134 : wLv "LimbRegistersLaw" 134 y_M_power c_M_power 6 none 4 := ⟨⟨bg_at 1018 (by decide +kernel) (by decide +kernel), bg_at 49 (by decide +kernel) (by decide +kernel), ⟨by decide +kernel, by decide +kernel⟩, by decide +kernel, bg_at 1015 (by decide +kernel) (by decide +kernel)⟩, bg_at 1016 (by decide +kernel) (by decide +kernel), bg_at 1017 (by decide +kernel) (by decide +kernel)⟩
theorem lk_M_115 : wLv "LimbRegistersModel" 115 y_M_reduce c_M_reduce 4 none 3 := ⟨⟨bg_at 1022 (by decide +kernel) (by decide +kernel), bg_at 49 (by decide +kernel) (by decide +kernel), ⟨by decide +kernel, by decide +kernel⟩, by decide +kernel, bg_at 1019 (by decide +kernel) (by decide +kernel)⟩, bg_at 1021 (by decide +kernel) (by decide +kernel), bg_at 36 (by decide +kernel) (by decide +kernel)⟩
theorem lk_M_118 : wLv "LimbRegistersModel" 118 y_M_timesBy c_M_timesBy 5 none 4 := ⟨⟨bg_at 1026 (by decide +kernel) (by decide +kernel), bg_at 49 (by decide +kernel) (by decide +kernel), ⟨by decide +kernel, by decide +kernel⟩, by decide +kernel, bg_at 1023 (by decide +kernel) (by decide +kernel)⟩, bg_at 1025 (by decide +kernel) (by decide +kernel), bg_at 37 (by decide +kernel) (by decide +kernel)⟩
theorem lk_Y_137 : wLv "LimbRegistersLaw" 137 y_M_inverse c_M_inverse 4 none 3 := ⟨⟨bg_at 1030 (by decide +kernel) (by decide +kernel), bg_at 49 (by decide +kernel) (by decide +kernel), ⟨by decide +kernel, by decide +kernel⟩, by decide +kernel, bg_at 1027 (by decide +kernel) (by decide +kernel)⟩, bg_at 1028 (by decide +kernel) (by decide +kernel), bg_at 1029 (by decide +kernel) (by decide +kernel)⟩
theorem lk_Y_141 : wLv "LimbRegistersLaw" 141 y_M_compare c_M_compare 3 (some .int) 2 := ⟨⟨bg_at 1034 (by decide +kernel) (by decide +kernel), bg_at 49 (by decide +kernel) (by decide +kernel), ⟨by decide +kernel, by decide +kernel⟩, by decide +kernel, bg_at 1031 (by decide +kernel) (by decide +kernel)⟩, bg_at 1032 (by decide +kernel) (by decide +kernel), bg_at 1033 (by decide +kernel) (by decide +kernel)⟩
theorem lk_Y_145 : wLv "LimbRegistersLaw" 145 y_M_bits c_M_bits 2 (some .int) 1 := ⟨⟨bg_at 1038 (by decide +kernel) (by decide +kernel), bg_at 49 (by decide +kernel) (by decide +kernel), ⟨by decide +kernel, by decide +kernel⟩, by decide +kernel, bg_at 1035 (by decide +kernel) (by decide +kernel)⟩, bg_at 1036 (by decide +kernel) (by decide +kernel), bg_at 1037 (by decide +kernel) (by decide +kernel)⟩
theorem lk_Y_148 : wLv "LimbRegistersLaw" 148 y_M_bit c_M_bit 3 (some .boolean) 2 := ⟨⟨bg_at 1042 (by decide +kernel) (by decide +kernel), bg_at 49 (by decide +kernel) (by decide +kernel), ⟨by decide +kernel, by decide +kernel⟩, by decide +kernel, bg_at 1039 (by decide +kernel) (by decide +kernel)⟩, bg_at 1040 (by decide +kernel) (by decide +kernel), bg_at 1041 (by decide +kernel) (by decide +kernel)⟩
theorem lk_Y_151 : wLv "LimbRegistersLaw" 151 y_M_low c_M_low 5 (some .long) 1 := ⟨⟨bg_at 1046 (by decide +kernel) (by decide +kernel), bg_at 49 (by decide +kernel) (by decide +kernel), ⟨by decide +kernel, by decide +kernel⟩, by decide +kernel, bg_at 1043 (by decide +kernel) (by decide +kernel)⟩, bg_at 1044 (by decide +kernel) (by decide +kernel), bg_at 1045 (by decide +kernel) (by decide +kernel)⟩
theorem lk_Y_155 : wLv "LimbRegistersLaw" 155 y_M_type c_M_type 8 (some .int) 2 := ⟨⟨bg_at 1050 (by decide +kernel) (by decide +kernel), bg_at 49 (by decide +kernel) (by decide +kernel), ⟨by decide +kernel, by decide +kernel⟩, by decide +kernel, bg_at 1047 (by decide +kernel) (by decide +kernel)⟩, bg_at 1048 (by decide +kernel) (by decide +kernel), bg_at 1049 (by decide +kernel) (by decide +kernel)⟩
theorem lk_Y_159 : wLv "LimbRegistersLaw" 159 y_M_wipe c_M_wipe 2 (some .int) 0 := ⟨⟨bg_at 1057 (by decide +kernel) (by decide +kernel), bg_at 49 (by decide +kernel) (by decide +kernel), ⟨by decide +kernel, by decide +kernel⟩, by decide +kernel, bg_at 1054 (by decide +kernel) (by decide +kernel)⟩, bg_at 1055 (by decide +kernel) (by decide +kernel), bg_at 1056 (by decide +kernel) (by decide +kernel)⟩
theorem lk_Y_162 : wLv "LimbRegistersLaw" 162 y_M_parse c_M_parse 6 (some .int) 2 := ⟨⟨bg_at 1061 (by decide +kernel) (by decide +kernel), bg_at 49 (by decide +kernel) (by decide +kernel), ⟨by decide +kernel, by decide +kernel⟩, by decide +kernel, bg_at 1058 (by decide +kernel) (by decide +kernel)⟩, bg_at 1059 (by decide +kernel) (by decide +kernel), bg_at 1060 (by decide +kernel) (by decide +kernel)⟩
theorem lk_M_130 : wLs "LimbRegistersModel" 130 y_M_digit c_M_digit 1 (some .int) 1 := ⟨⟨bg_at 1064 (by decide +kernel) (by decide +kernel), bg_at 49 (by decide +kernel) (by decide +kernel), ⟨by decide +kernel, by decide +kernel⟩, by decide +kernel, bg_at 1062 (by decide +kernel) (by decide +kernel)⟩, bg_at 1063 (by decide +kernel) (by decide +kernel)⟩
theorem lk_M_133 : wLv "LimbRegistersModel" 133 y_M_grow c_M_grow 8 none 2 := ⟨⟨bg_at 1068 (by decide +kernel) (by decide +kernel), bg_at 49 (by decide +kernel) (by decide +kernel), ⟨by decide +kernel, by decide +kernel⟩, by decide +kernel, bg_at 1065 (by decide +kernel) (by decide +kernel)⟩, bg_at 1067 (by decide +kernel) (by decide +kernel), bg_at 38 (by decide +kernel) (by decide +kernel)⟩
theorem lk_Y_165 : wLv "LimbRegistersLaw" 165 y_M_print c_M_print 5 (some .int) 2 := ⟨⟨bg_at 1072 (by decide +kernel) (by decide +kernel), bg_at 49 (by decide +kernel) (by decide +kernel), ⟨by decide +kernel, by decide +kernel⟩, by decide +kernel, bg_at 1069 (by decide +kernel) (by decide +kernel)⟩, bg_at 1070 (by decide +kernel) (by decide +kernel), bg_at 1071 (by decide +kernel) (by decide +kernel)⟩
theorem lk_M_136 : wLv "LimbRegistersModel" 136 y_M_shrink c_M_shrink 7 (some .int) 1 := ⟨⟨bg_at 1076 (by decide +kernel) (by decide +kernel), bg_at 49 (by decide +kernel) (by decide +kernel), ⟨by decide +kernel, by decide +kernel⟩, by decide +kernel, bg_at 1073 (by decide +kernel) (by decide +kernel)⟩, bg_at 1075 (by decide +kernel) (by decide +kernel), bg_at 39 (by decide +kernel) (by decide +kernel)⟩
theorem lk_Y_168 : wLv "LimbRegistersLaw" 168 y_M_character c_M_character 2 (some .int) 1 := ⟨⟨bg_at 1080 (by decide +kernel) (by decide +kernel), bg_at 49 (by decide +kernel) (by decide +kernel), ⟨by decide +kernel, by decide +kernel⟩, by decide +kernel, bg_at 1077 (by decide +kernel) (by decide +kernel)⟩, bg_at 1078 (by decide +kernel) (by decide +kernel), bg_at 1079 (by decide +kernel) (by decide +kernel)⟩
end
section
/-! decode rows -/
theorem d_JI_numberOfLeadingZeros_0 : decode c_JI_numberOfLeadingZeros 0 = .ok (.iload_n 0, 1) := by decide +kernel
theorem d_JI_numberOfLeadingZeros_1 : decode c_JI_numberOfLeadingZeros 1 = .ok (.ifCond .gt 14, 3) := by decide +kernel
theorem d_JI_numberOfLeadingZeros_4 : decode c_JI_numberOfLeadingZeros 4 = .ok (.iload_n 0, 1) := by decide +kernel
theorem d_JI_numberOfLeadingZeros_5 : decode c_JI_numberOfLeadingZeros 5 = .ok (.ifCond .ne 8, 3) := by decide +kernel
theorem d_JI_numberOfLeadingZeros_8 : decode c_JI_numberOfLeadingZeros 8 = .ok (.bipush 32, 2) := by decide +kernel
theorem d_JI_numberOfLeadingZeros_10 : decode c_JI_numberOfLeadingZeros 10 = .ok (.goto 4, 3) := by decide +kernel
theorem d_JI_numberOfLeadingZeros_13 : decode c_JI_numberOfLeadingZeros 13 = .ok (.iconst 0, 1) := by decide +kernel
theorem d_JI_numberOfLeadingZeros_14 : decode c_JI_numberOfLeadingZeros 14 = .ok (.ireturn, 1) := by decide +kernel
theorem d_JI_numberOfLeadingZeros_15 : decode c_JI_numberOfLeadingZeros 15 = .ok (.bipush 31, 2) := by decide +kernel
theorem d_JI_numberOfLeadingZeros_17 : decode c_JI_numberOfLeadingZeros 17 = .ok (.istore_n 1, 1) := by decide +kernel
theorem d_JI_numberOfLeadingZeros_18 : decode c_JI_numberOfLeadingZeros 18 = .ok (.iload_n 0, 1) := by decide +kernel
theorem d_JI_numberOfLeadingZeros_19 : decode c_JI_numberOfLeadingZeros 19 = .ok (.ldc_w 264, 3) := by decide +kernel
theorem d_JI_numberOfLeadingZeros_22 : decode c_JI_numberOfLeadingZeros 22 = .ok (.if_icmp .lt 11, 3) := by decide +kernel
theorem d_JI_numberOfLeadingZeros_25 : decode c_JI_numberOfLeadingZeros 25 = .ok (.iinc 1 (-16), 3) := by decide +kernel
theorem d_JI_numberOfLeadingZeros_28 : decode c_JI_numberOfLeadingZeros 28 = .ok (.iload_n 0, 1) := by decide +kernel
theorem d_JI_numberOfLeadingZeros_29 : decode c_JI_numberOfLeadingZeros 29 = .ok (.bipush 16, 2) := by decide +kernel
theorem d_JI_numberOfLeadingZeros_31 : decode c_JI_numberOfLeadingZeros 31 = .ok (.iushr, 1) := by decide +kernel
theorem d_JI_numberOfLeadingZeros_32 : decode c_JI_numberOfLeadingZeros 32 = .ok (.istore_n 0, 1) := by decide +kernel
theorem d_JI_numberOfLeadingZeros_33 : decode c_JI_numberOfLeadingZeros 33 = .ok (.iload_n 0, 1) := by decide +kernel
theorem d_JI_numberOfLeadingZeros_34 : decode c_JI_numberOfLeadingZeros 34 = .ok (.sipush 256, 3) := by decide +kernel
theorem d_JI_numberOfLeadingZeros_37 : decode c_JI_numberOfLeadingZeros 37 = .ok (.if_icmp .lt 11, 3) := by decide +kernel
theorem d_JI_numberOfLeadingZeros_40 : decode c_JI_numberOfLeadingZeros 40 = .ok (.iinc 1 (-8), 3) := by decide +kernel
theorem d_JI_numberOfLeadingZeros_43 : decode c_JI_numberOfLeadingZeros 43 = .ok (.iload_n 0, 1) := by decide +kernel
theorem d_JI_numberOfLeadingZeros_44 : decode c_JI_numberOfLeadingZeros 44 = .ok (.bipush 8, 2) := by decide +kernel
theorem d_JI_numberOfLeadingZeros_46 : decode c_JI_numberOfLeadingZeros 46 = .ok (.iushr, 1) := by decide +kernel
theorem d_JI_numberOfLeadingZeros_47 : decode c_JI_numberOfLeadingZeros 47 = .ok (.istore_n 0, 1) := by decide +kernel
theorem d_JI_numberOfLeadingZeros_48 : decode c_JI_numberOfLeadingZeros 48 = .ok (.iload_n 0, 1) := by decide +kernel
theorem d_JI_numberOfLeadingZeros_49 : decode c_JI_numberOfLeadingZeros 49 = .ok (.bipush 16, 2) := by decide +kernel
theorem d_JI_numberOfLeadingZeros_51 : decode c_JI_numberOfLeadingZeros 51 = .ok (.if_icmp .lt 10, 3) := by decide +kernel
theorem d_JI_numberOfLeadingZeros_54 : decode c_JI_numberOfLeadingZeros 54 = .ok (.iinc 1 (-4), 3) := by decide +kernel
theorem d_JI_numberOfLeadingZeros_57 : decode c_JI_numberOfLeadingZeros 57 = .ok (.iload_n 0, 1) := by decide +kernel
theorem d_JI_numberOfLeadingZeros_58 : decode c_JI_numberOfLeadingZeros 58 = .ok (.iconst 4, 1) := by decide +kernel
theorem d_JI_numberOfLeadingZeros_59 : decode c_JI_numberOfLeadingZeros 59 = .ok (.iushr, 1) := by decide +kernel
theorem d_JI_numberOfLeadingZeros_60 : decode c_JI_numberOfLeadingZeros 60 = .ok (.istore_n 0, 1) := by decide +kernel
theorem d_JI_numberOfLeadingZeros_61 : decode c_JI_numberOfLeadingZeros 61 = .ok (.iload_n 0, 1) := by decide +kernel
theorem d_JI_numberOfLeadingZeros_62 : decode c_JI_numberOfLeadingZeros 62 = .ok (.iconst 4, 1) := by decide +kernel
theorem d_JI_numberOfLeadingZeros_63 : decode c_JI_numberOfLeadingZeros 63 = .ok (.if_icmp .lt 10, 3) := by decide +kernel
theorem d_JI_numberOfLeadingZeros_66 : decode c_JI_numberOfLeadingZeros 66 = .ok (.iinc 1 (-2), 3) := by decide +kernel
theorem d_JI_numberOfLeadingZeros_69 : decode c_JI_numberOfLeadingZeros 69 = .ok (.iload_n 0, 1) := by decide +kernel
theorem d_JI_numberOfLeadingZeros_70 : decode c_JI_numberOfLeadingZeros 70 = .ok (.iconst 2, 1) := by decide +kernel
theorem d_JI_numberOfLeadingZeros_71 : decode c_JI_numberOfLeadingZeros 71 = .ok (.iushr, 1) := by decide +kernel
theorem d_JI_numberOfLeadingZeros_72 : decode c_JI_numberOfLeadingZeros 72 = .ok (.istore_n 0, 1) := by decide +kernel
theorem d_JI_numberOfLeadingZeros_73 : decode c_JI_numberOfLeadingZeros 73 = .ok (.iload_n 1, 1) := by decide +kernel
theorem d_JI_numberOfLeadingZeros_74 : decode c_JI_numberOfLeadingZeros 74 = .ok (.iload_n 0, 1) := by decide +kernel
theorem d_JI_numberOfLeadingZeros_75 : decode c_JI_numberOfLeadingZeros 75 = .ok (.iconst 1, 1) := by decide +kernel
theorem d_JI_numberOfLeadingZeros_76 : decode c_JI_numberOfLeadingZeros 76 = .ok (.iushr, 1) := by decide +kernel
theorem d_JI_numberOfLeadingZeros_77 : decode c_JI_numberOfLeadingZeros 77 = .ok (.isub, 1) := by decide +kernel
theorem d_JI_numberOfLeadingZeros_78 : decode c_JI_numberOfLeadingZeros 78 = .ok (.ireturn, 1) := by decide +kernel
theorem d_JL_numberOfLeadingZeros_0 : decode c_JL_numberOfLeadingZeros 0 = .ok (.lload_n 0, 1) := by decide +kernel
theorem d_JL_numberOfLeadingZeros_1 : decode c_JL_numberOfLeadingZeros 1 = .ok (.bipush 32, 2) := by decide +kernel
theorem d_JL_numberOfLeadingZeros_3 : decode c_JL_numberOfLeadingZeros 3 = .ok (.lushr, 1) := by decide +kernel
theorem d_JL_numberOfLeadingZeros_4 : decode c_JL_numberOfLeadingZeros 4 = .ok (.l2i, 1) := by decide +kernel
theorem d_JL_numberOfLeadingZeros_5 : decode c_JL_numberOfLeadingZeros 5 = .ok (.istore_n 2, 1) := by decide +kernel
theorem d_JL_numberOfLeadingZeros_6 : decode c_JL_numberOfLeadingZeros 6 = .ok (.iload_n 2, 1) := by decide +kernel
theorem d_JL_numberOfLeadingZeros_7 : decode c_JL_numberOfLeadingZeros 7 = .ok (.ifCond .ne 14, 3) := by decide +kernel
theorem d_JL_numberOfLeadingZeros_10 : decode c_JL_numberOfLeadingZeros 10 = .ok (.bipush 32, 2) := by decide +kernel
theorem d_JL_numberOfLeadingZeros_12 : decode c_JL_numberOfLeadingZeros 12 = .ok (.lload_n 0, 1) := by decide +kernel
theorem d_JL_numberOfLeadingZeros_13 : decode c_JL_numberOfLeadingZeros 13 = .ok (.l2i, 1) := by decide +kernel
theorem d_JL_numberOfLeadingZeros_14 : decode c_JL_numberOfLeadingZeros 14 = .ok (.invokestatic 308, 3) := by decide +kernel
theorem d_JL_numberOfLeadingZeros_17 : decode c_JL_numberOfLeadingZeros 17 = .ok (.iadd, 1) := by decide +kernel
theorem d_JL_numberOfLeadingZeros_18 : decode c_JL_numberOfLeadingZeros 18 = .ok (.goto 7, 3) := by decide +kernel
theorem d_JL_numberOfLeadingZeros_21 : decode c_JL_numberOfLeadingZeros 21 = .ok (.iload_n 2, 1) := by decide +kernel
theorem d_JL_numberOfLeadingZeros_22 : decode c_JL_numberOfLeadingZeros 22 = .ok (.invokestatic 308, 3) := by decide +kernel
theorem d_JL_numberOfLeadingZeros_25 : decode c_JL_numberOfLeadingZeros 25 = .ok (.ireturn, 1) := by decide +kernel
theorem d_JM_maxI_0 : decode c_JM_maxI 0 = .ok (.iload_n 0, 1) := by decide +kernel
theorem d_JM_maxI_1 : decode c_JM_maxI 1 = .ok (.iload_n 1, 1) := by decide +kernel
theorem d_JM_maxI_2 : decode c_JM_maxI 2 = .ok (.if_icmp .lt 7, 3) := by decide +kernel
theorem d_JM_maxI_5 : decode c_JM_maxI 5 = .ok (.iload_n 0, 1) := by decide +kernel
theorem d_JM_maxI_6 : decode c_JM_maxI 6 = .ok (.goto 4, 3) := by decide +kernel
theorem d_JM_maxI_9 : decode c_JM_maxI 9 = .ok (.iload_n 1, 1) := by decide +kernel
theorem d_JM_maxI_10 : decode c_JM_maxI 10 = .ok (.ireturn, 1) := by decide +kernel
theorem d_JM_minI_0 : decode c_JM_minI 0 = .ok (.iload_n 0, 1) := by decide +kernel
theorem d_JM_minI_1 : decode c_JM_minI 1 = .ok (.iload_n 1, 1) := by decide +kernel
theorem d_JM_minI_2 : decode c_JM_minI 2 = .ok (.if_icmp .gt 7, 3) := by decide +kernel
theorem d_JM_minI_5 : decode c_JM_minI 5 = .ok (.iload_n 0, 1) := by decide +kernel
theorem d_JM_minI_6 : decode c_JM_minI 6 = .ok (.goto 4, 3) := by decide +kernel
theorem d_JM_minI_9 : decode c_JM_minI 9 = .ok (.iload_n 1, 1) := by decide +kernel
theorem d_JM_minI_10 : decode c_JM_minI 10 = .ok (.ireturn, 1) := by decide +kernel
theorem d_JM_minJ_0 : decode c_JM_minJ 0 = .ok (.lload_n 0, 1) := by decide +kernel
theorem d_JM_minJ_1 : decode c_JM_minJ 1 = .ok (.lload_n 2, 1) := by decide +kernel
theorem d_JM_minJ_2 : decode c_JM_minJ 2 = .ok (.lcmp, 1) := by decide +kernel
theorem d_JM_minJ_3 : decode c_JM_minJ 3 = .ok (.ifCond .gt 7, 3) := by decide +kernel
theorem d_JM_minJ_6 : decode c_JM_minJ 6 = .ok (.lload_n 0, 1) := by decide +kernel
theorem d_JM_minJ_7 : decode c_JM_minJ 7 = .ok (.goto 4, 3) := by decide +kernel
theorem d_JM_minJ_10 : decode c_JM_minJ 10 = .ok (.lload_n 2, 1) := by decide +kernel
theorem d_JM_minJ_11 : decode c_JM_minJ 11 = .ok (.lreturn, 1) := by decide +kernel
theorem d_N_at_0 : decode c_N_at 0 = .ok (.iload_n 1, 1) := by decide +kernel
theorem d_N_at_1 : decode c_N_at 1 = .ok (.ifCond .lt 20, 3) := by decide +kernel
theorem d_N_at_4 : decode c_N_at 4 = .ok (.iload_n 1, 1) := by decide +kernel
theorem d_N_at_5 : decode c_N_at 5 = .ok (.aload_n 0, 1) := by decide +kernel
theorem d_N_at_6 : decode c_N_at 6 = .ok (.getfield 15, 3) := by decide +kernel
theorem d_N_at_9 : decode c_N_at 9 = .ok (.if_icmp .ge 12, 3) := by decide +kernel
theorem d_N_at_12 : decode c_N_at 12 = .ok (.aload_n 0, 1) := by decide +kernel
theorem d_N_at_13 : decode c_N_at 13 = .ok (.getfield 9, 3) := by decide +kernel
theorem d_N_at_16 : decode c_N_at 16 = .ok (.iload_n 1, 1) := by decide +kernel
theorem d_N_at_17 : decode c_N_at 17 = .ok (.laload, 1) := by decide +kernel
theorem d_N_at_18 : decode c_N_at 18 = .ok (.goto 4, 3) := by decide +kernel
theorem d_N_at_21 : decode c_N_at 21 = .ok (.lconst 0, 1) := by decide +kernel
theorem d_N_at_22 : decode c_N_at 22 = .ok (.lreturn, 1) := by decide +kernel
theorem d_N_carryUp_0 : decode c_N_carryUp 0 = .ok (.lconst 0, 1) := by decide +kernel
theorem d_N_carryUp_1 : decode c_N_carryUp 1 = .ok (.lstore_n 2, 1) := by decide +kernel
theorem d_N_carryUp_2 : decode c_N_carryUp 2 = .ok (.iconst 0, 1) := by decide +kernel
theorem d_N_carryUp_3 : decode c_N_carryUp 3 = .ok (.istore 4, 2) := by decide +kernel
theorem d_N_carryUp_5 : decode c_N_carryUp 5 = .ok (.iload 4, 2) := by decide +kernel
theorem d_N_carryUp_7 : decode c_N_carryUp 7 = .ok (.iload_n 1, 1) := by decide +kernel
theorem d_N_carryUp_8 : decode c_N_carryUp 8 = .ok (.if_icmp .ge 36, 3) := by decide +kernel
theorem d_N_carryUp_11 : decode c_N_carryUp 11 = .ok (.lload_n 2, 1) := by decide +kernel
theorem d_N_carryUp_12 : decode c_N_carryUp 12 = .ok (.aload_n 0, 1) := by decide +kernel
theorem d_N_carryUp_13 : decode c_N_carryUp 13 = .ok (.getfield 9, 3) := by decide +kernel
theorem d_N_carryUp_16 : decode c_N_carryUp 16 = .ok (.iload 4, 2) := by decide +kernel
theorem d_N_carryUp_18 : decode c_N_carryUp 18 = .ok (.laload, 1) := by decide +kernel
theorem d_N_carryUp_19 : decode c_N_carryUp 19 = .ok (.ladd, 1) := by decide +kernel
theorem d_N_carryUp_20 : decode c_N_carryUp 20 = .ok (.lstore_n 2, 1) := by decide +kernel
theorem d_N_carryUp_21 : decode c_N_carryUp 21 = .ok (.aload_n 0, 1) := by decide +kernel
theorem d_N_carryUp_22 : decode c_N_carryUp 22 = .ok (.getfield 9, 3) := by decide +kernel
theorem d_N_carryUp_25 : decode c_N_carryUp 25 = .ok (.iload 4, 2) := by decide +kernel
theorem d_N_carryUp_27 : decode c_N_carryUp 27 = .ok (.lload_n 2, 1) := by decide +kernel
theorem d_N_carryUp_28 : decode c_N_carryUp 28 = .ok (.ldc2_w 43, 3) := by decide +kernel
theorem d_N_carryUp_31 : decode c_N_carryUp 31 = .ok (.land, 1) := by decide +kernel
theorem d_N_carryUp_32 : decode c_N_carryUp 32 = .ok (.lastore, 1) := by decide +kernel
theorem d_N_carryUp_33 : decode c_N_carryUp 33 = .ok (.lload_n 2, 1) := by decide +kernel
theorem d_N_carryUp_34 : decode c_N_carryUp 34 = .ok (.bipush 28, 2) := by decide +kernel
theorem d_N_carryUp_36 : decode c_N_carryUp 36 = .ok (.lshr, 1) := by decide +kernel
theorem d_N_carryUp_37 : decode c_N_carryUp 37 = .ok (.lstore_n 2, 1) := by decide +kernel
theorem d_N_carryUp_38 : decode c_N_carryUp 38 = .ok (.iinc 4 1, 3) := by decide +kernel
theorem d_N_carryUp_41 : decode c_N_carryUp 41 = .ok (.goto (-36), 3) := by decide +kernel
theorem d_N_carryUp_44 : decode c_N_carryUp 44 = .ok (.aload_n 0, 1) := by decide +kernel
theorem d_N_carryUp_45 : decode c_N_carryUp 45 = .ok (.iload_n 1, 1) := by decide +kernel
theorem d_N_carryUp_46 : decode c_N_carryUp 46 = .ok (.invokevirtual 39, 3) := by decide +kernel
theorem d_N_carryUp_49 : decode c_N_carryUp 49 = .ok (.return_, 1) := by decide +kernel
theorem d_N_clear_0 : decode c_N_clear 0 = .ok (.aload_n 0, 1) := by decide +kernel
theorem d_N_clear_1 : decode c_N_clear 1 = .ok (.iconst 0, 1) := by decide +kernel
theorem d_N_clear_2 : decode c_N_clear 2 = .ok (.invokevirtual 39, 3) := by decide +kernel
theorem d_N_clear_5 : decode c_N_clear 5 = .ok (.return_, 1) := by decide +kernel
theorem d_N_gather_0 : decode c_N_gather 0 = .ok (.aload_n 0, 1) := by decide +kernel
theorem d_N_gather_1 : decode c_N_gather 1 = .ok (.getfield 9, 3) := by decide +kernel
theorem d_N_gather_4 : decode c_N_gather 4 = .ok (.astore 6, 2) := by decide +kernel
theorem d_N_gather_6 : decode c_N_gather 6 = .ok (.aload_n 1, 1) := by decide +kernel
theorem d_N_gather_7 : decode c_N_gather 7 = .ok (.getfield 9, 3) := by decide +kernel
theorem d_N_gather_10 : decode c_N_gather 10 = .ok (.astore 7, 2) := by decide +kernel
theorem d_N_gather_12 : decode c_N_gather 12 = .ok (.aload_n 1, 1) := by decide +kernel
theorem d_N_gather_13 : decode c_N_gather 13 = .ok (.getfield 15, 3) := by decide +kernel
theorem d_N_gather_16 : decode c_N_gather 16 = .ok (.istore 8, 2) := by decide +kernel
theorem d_N_gather_18 : decode c_N_gather 18 = .ok (.iload_n 2, 1) := by decide +kernel
theorem d_N_gather_19 : decode c_N_gather 19 = .ok (.istore 9, 2) := by decide +kernel
theorem d_N_gather_21 : decode c_N_gather 21 = .ok (.iload 9, 2) := by decide +kernel
theorem d_N_gather_23 : decode c_N_gather 23 = .ok (.iload 8, 2) := by decide +kernel
theorem d_N_gather_25 : decode c_N_gather 25 = .ok (.if_icmp .ge 27, 3) := by decide +kernel
theorem d_N_gather_28 : decode c_N_gather 28 = .ok (.aload 6, 2) := by decide +kernel
theorem d_N_gather_30 : decode c_N_gather 30 = .ok (.iload_n 3, 1) := by decide +kernel
theorem d_N_gather_31 : decode c_N_gather 31 = .ok (.iload 9, 2) := by decide +kernel
theorem d_N_gather_33 : decode c_N_gather 33 = .ok (.iadd, 1) := by decide +kernel
theorem d_N_gather_34 : decode c_N_gather 34 = .ok (.dup2, 1) := by decide +kernel
theorem d_N_gather_35 : decode c_N_gather 35 = .ok (.laload, 1) := by decide +kernel
theorem d_N_gather_36 : decode c_N_gather 36 = .ok (.lload 4, 2) := by decide +kernel
theorem d_N_gather_38 : decode c_N_gather 38 = .ok (.aload 7, 2) := by decide +kernel
theorem d_N_gather_40 : decode c_N_gather 40 = .ok (.iload 9, 2) := by decide +kernel
theorem d_N_gather_42 : decode c_N_gather 42 = .ok (.laload, 1) := by decide +kernel
theorem d_N_gather_43 : decode c_N_gather 43 = .ok (.lmul, 1) := by decide +kernel
theorem d_N_gather_44 : decode c_N_gather 44 = .ok (.ladd, 1) := by decide +kernel
theorem d_N_gather_45 : decode c_N_gather 45 = .ok (.lastore, 1) := by decide +kernel
theorem d_N_gather_46 : decode c_N_gather 46 = .ok (.iinc 9 1, 3) := by decide +kernel
theorem d_N_gather_49 : decode c_N_gather 49 = .ok (.goto (-28), 3) := by decide +kernel
theorem d_N_gather_52 : decode c_N_gather 52 = .ok (.return_, 1) := by decide +kernel
theorem d_N_hasBit_0 : decode c_N_hasBit 0 = .ok (.aload_n 0, 1) := by decide +kernel
theorem d_N_hasBit_1 : decode c_N_hasBit 1 = .ok (.iload_n 1, 1) := by decide +kernel
theorem d_N_hasBit_2 : decode c_N_hasBit 2 = .ok (.bipush 28, 2) := by decide +kernel
theorem d_N_hasBit_4 : decode c_N_hasBit 4 = .ok (.idiv, 1) := by decide +kernel
theorem d_N_hasBit_5 : decode c_N_hasBit 5 = .ok (.invokevirtual 19, 3) := by decide +kernel
theorem d_N_hasBit_8 : decode c_N_hasBit 8 = .ok (.iload_n 1, 1) := by decide +kernel
theorem d_N_hasBit_9 : decode c_N_hasBit 9 = .ok (.bipush 28, 2) := by decide +kernel
theorem d_N_hasBit_11 : decode c_N_hasBit 11 = .ok (.irem, 1) := by decide +kernel
theorem d_N_hasBit_12 : decode c_N_hasBit 12 = .ok (.lshr, 1) := by decide +kernel
theorem d_N_hasBit_13 : decode c_N_hasBit 13 = .ok (.lconst 1, 1) := by decide +kernel
theorem d_N_hasBit_14 : decode c_N_hasBit 14 = .ok (.land, 1) := by decide +kernel
theorem d_N_hasBit_15 : decode c_N_hasBit 15 = .ok (.lconst 1, 1) := by decide +kernel
theorem d_N_hasBit_16 : decode c_N_hasBit 16 = .ok (.lcmp, 1) := by decide +kernel
theorem d_N_hasBit_17 : decode c_N_hasBit 17 = .ok (.ifCond .ne 7, 3) := by decide +kernel
theorem d_N_hasBit_20 : decode c_N_hasBit 20 = .ok (.iconst 1, 1) := by decide +kernel
theorem d_N_hasBit_21 : decode c_N_hasBit 21 = .ok (.goto 4, 3) := by decide +kernel
theorem d_N_hasBit_24 : decode c_N_hasBit 24 = .ok (.iconst 0, 1) := by decide +kernel
theorem d_N_hasBit_25 : decode c_N_hasBit 25 = .ok (.ireturn, 1) := by decide +kernel
theorem d_N_hasBitBelow_0 : decode c_N_hasBitBelow 0 = .ok (.iload_n 1, 1) := by decide +kernel
theorem d_N_hasBitBelow_1 : decode c_N_hasBitBelow 1 = .ok (.bipush 28, 2) := by decide +kernel
theorem d_N_hasBitBelow_3 : decode c_N_hasBitBelow 3 = .ok (.idiv, 1) := by decide +kernel
theorem d_N_hasBitBelow_4 : decode c_N_hasBitBelow 4 = .ok (.aload_n 0, 1) := by decide +kernel
theorem d_N_hasBitBelow_5 : decode c_N_hasBitBelow 5 = .ok (.getfield 15, 3) := by decide +kernel
theorem d_N_hasBitBelow_8 : decode c_N_hasBitBelow 8 = .ok (.invokestatic 33, 3) := by decide +kernel
theorem d_N_hasBitBelow_11 : decode c_N_hasBitBelow 11 = .ok (.istore_n 2, 1) := by decide +kernel
theorem d_N_hasBitBelow_12 : decode c_N_hasBitBelow 12 = .ok (.iconst 0, 1) := by decide +kernel
theorem d_N_hasBitBelow_13 : decode c_N_hasBitBelow 13 = .ok (.istore_n 3, 1) := by decide +kernel
theorem d_N_hasBitBelow_14 : decode c_N_hasBitBelow 14 = .ok (.iload_n 3, 1) := by decide +kernel
theorem d_N_hasBitBelow_15 : decode c_N_hasBitBelow 15 = .ok (.iload_n 2, 1) := by decide +kernel
theorem d_N_hasBitBelow_16 : decode c_N_hasBitBelow 16 = .ok (.if_icmp .ge 22, 3) := by decide +kernel
theorem d_N_hasBitBelow_19 : decode c_N_hasBitBelow 19 = .ok (.aload_n 0, 1) := by decide +kernel
theorem d_N_hasBitBelow_20 : decode c_N_hasBitBelow 20 = .ok (.getfield 9, 3) := by decide +kernel
theorem d_N_hasBitBelow_23 : decode c_N_hasBitBelow 23 = .ok (.iload_n 3, 1) := by decide +kernel
theorem d_N_hasBitBelow_24 : decode c_N_hasBitBelow 24 = .ok (.laload, 1) := by decide +kernel
theorem d_N_hasBitBelow_25 : decode c_N_hasBitBelow 25 = .ok (.lconst 0, 1) := by decide +kernel
theorem d_N_hasBitBelow_26 : decode c_N_hasBitBelow 26 = .ok (.lcmp, 1) := by decide +kernel
theorem d_N_hasBitBelow_27 : decode c_N_hasBitBelow 27 = .ok (.ifCond .eq 5, 3) := by decide +kernel
theorem d_N_hasBitBelow_30 : decode c_N_hasBitBelow 30 = .ok (.iconst 1, 1) := by decide +kernel
theorem d_N_hasBitBelow_31 : decode c_N_hasBitBelow 31 = .ok (.ireturn, 1) := by decide +kernel
theorem d_N_hasBitBelow_32 : decode c_N_hasBitBelow 32 = .ok (.iinc 3 1, 3) := by decide +kernel
theorem d_N_hasBitBelow_35 : decode c_N_hasBitBelow 35 = .ok (.goto (-21), 3) := by decide +kernel
theorem d_N_hasBitBelow_38 : decode c_N_hasBitBelow 38 = .ok (.aload_n 0, 1) := by decide +kernel
theorem d_N_hasBitBelow_39 : decode c_N_hasBitBelow 39 = .ok (.iload_n 1, 1) := by decide +kernel
theorem d_N_hasBitBelow_40 : decode c_N_hasBitBelow 40 = .ok (.bipush 28, 2) := by decide +kernel
theorem d_N_hasBitBelow_42 : decode c_N_hasBitBelow 42 = .ok (.idiv, 1) := by decide +kernel
theorem d_N_hasBitBelow_43 : decode c_N_hasBitBelow 43 = .ok (.invokevirtual 19, 3) := by decide +kernel
theorem d_N_hasBitBelow_46 : decode c_N_hasBitBelow 46 = .ok (.lconst 1, 1) := by decide +kernel
theorem d_N_hasBitBelow_47 : decode c_N_hasBitBelow 47 = .ok (.iload_n 1, 1) := by decide +kernel
theorem d_N_hasBitBelow_48 : decode c_N_hasBitBelow 48 = .ok (.bipush 28, 2) := by decide +kernel
theorem d_N_hasBitBelow_50 : decode c_N_hasBitBelow 50 = .ok (.irem, 1) := by decide +kernel
theorem d_N_hasBitBelow_51 : decode c_N_hasBitBelow 51 = .ok (.lshl, 1) := by decide +kernel
theorem d_N_hasBitBelow_52 : decode c_N_hasBitBelow 52 = .ok (.lconst 1, 1) := by decide +kernel
theorem d_N_hasBitBelow_53 : decode c_N_hasBitBelow 53 = .ok (.lsub, 1) := by decide +kernel
theorem d_N_hasBitBelow_54 : decode c_N_hasBitBelow 54 = .ok (.land, 1) := by decide +kernel
theorem d_N_hasBitBelow_55 : decode c_N_hasBitBelow 55 = .ok (.lconst 0, 1) := by decide +kernel
theorem d_N_hasBitBelow_56 : decode c_N_hasBitBelow 56 = .ok (.lcmp, 1) := by decide +kernel
theorem d_N_hasBitBelow_57 : decode c_N_hasBitBelow 57 = .ok (.ifCond .eq 7, 3) := by decide +kernel
theorem d_N_hasBitBelow_60 : decode c_N_hasBitBelow 60 = .ok (.iconst 1, 1) := by decide +kernel
theorem d_N_hasBitBelow_61 : decode c_N_hasBitBelow 61 = .ok (.goto 4, 3) := by decide +kernel
theorem d_N_hasBitBelow_64 : decode c_N_hasBitBelow 64 = .ok (.iconst 0, 1) := by decide +kernel
theorem d_N_hasBitBelow_65 : decode c_N_hasBitBelow 65 = .ok (.ireturn, 1) := by decide +kernel
theorem d_N_increase_0 : decode c_N_increase 0 = .ok (.iconst 0, 1) := by decide +kernel
theorem d_N_increase_1 : decode c_N_increase 1 = .ok (.istore_n 1, 1) := by decide +kernel
theorem d_N_increase_2 : decode c_N_increase 2 = .ok (.iload_n 1, 1) := by decide +kernel
theorem d_N_increase_3 : decode c_N_increase 3 = .ok (.aload_n 0, 1) := by decide +kernel
theorem d_N_increase_4 : decode c_N_increase 4 = .ok (.getfield 15, 3) := by decide +kernel
theorem d_N_increase_7 : decode c_N_increase 7 = .ok (.if_icmp .ge 29, 3) := by decide +kernel
theorem d_N_increase_10 : decode c_N_increase 10 = .ok (.aload_n 0, 1) := by decide +kernel
theorem d_N_increase_11 : decode c_N_increase 11 = .ok (.getfield 9, 3) := by decide +kernel
theorem d_N_increase_14 : decode c_N_increase 14 = .ok (.iload_n 1, 1) := by decide +kernel
theorem d_N_increase_15 : decode c_N_increase 15 = .ok (.laload, 1) := by decide +kernel
theorem d_N_increase_16 : decode c_N_increase 16 = .ok (.ldc2_w 43, 3) := by decide +kernel
theorem d_N_increase_19 : decode c_N_increase 19 = .ok (.lcmp, 1) := by decide +kernel
theorem d_N_increase_20 : decode c_N_increase 20 = .ok (.ifCond .ne 16, 3) := by decide +kernel
theorem d_N_increase_23 : decode c_N_increase 23 = .ok (.aload_n 0, 1) := by decide +kernel
theorem d_N_increase_24 : decode c_N_increase 24 = .ok (.getfield 9, 3) := by decide +kernel
theorem d_N_increase_27 : decode c_N_increase 27 = .ok (.iload_n 1, 1) := by decide +kernel
theorem d_N_increase_28 : decode c_N_increase 28 = .ok (.lconst 0, 1) := by decide +kernel
theorem d_N_increase_29 : decode c_N_increase 29 = .ok (.lastore, 1) := by decide +kernel
theorem d_N_increase_30 : decode c_N_increase 30 = .ok (.iinc 1 1, 3) := by decide +kernel
theorem d_N_increase_33 : decode c_N_increase 33 = .ok (.goto (-31), 3) := by decide +kernel
theorem d_N_increase_36 : decode c_N_increase 36 = .ok (.aload_n 0, 1) := by decide +kernel
theorem d_N_increase_37 : decode c_N_increase 37 = .ok (.getfield 9, 3) := by decide +kernel
theorem d_N_increase_40 : decode c_N_increase 40 = .ok (.iload_n 1, 1) := by decide +kernel
theorem d_N_increase_41 : decode c_N_increase 41 = .ok (.dup2, 1) := by decide +kernel
theorem d_N_increase_42 : decode c_N_increase 42 = .ok (.laload, 1) := by decide +kernel
theorem d_N_increase_43 : decode c_N_increase 43 = .ok (.lconst 1, 1) := by decide +kernel
theorem d_N_increase_44 : decode c_N_increase 44 = .ok (.ladd, 1) := by decide +kernel
theorem d_N_increase_45 : decode c_N_increase 45 = .ok (.lastore, 1) := by decide +kernel
theorem d_N_increase_46 : decode c_N_increase 46 = .ok (.aload_n 0, 1) := by decide +kernel
theorem d_N_increase_47 : decode c_N_increase 47 = .ok (.aload_n 0, 1) := by decide +kernel
theorem d_N_increase_48 : decode c_N_increase 48 = .ok (.getfield 15, 3) := by decide +kernel
theorem d_N_increase_51 : decode c_N_increase 51 = .ok (.iload_n 1, 1) := by decide +kernel
theorem d_N_increase_52 : decode c_N_increase 52 = .ok (.iconst 1, 1) := by decide +kernel
theorem d_N_increase_53 : decode c_N_increase 53 = .ok (.iadd, 1) := by decide +kernel
theorem d_N_increase_54 : decode c_N_increase 54 = .ok (.invokestatic 45, 3) := by decide +kernel
theorem d_N_increase_57 : decode c_N_increase 57 = .ok (.putfield 15, 3) := by decide +kernel
theorem d_N_increase_60 : decode c_N_increase 60 = .ok (.return_, 1) := by decide +kernel
theorem d_N_isOne_0 : decode c_N_isOne 0 = .ok (.aload_n 0, 1) := by decide +kernel
theorem d_N_isOne_1 : decode c_N_isOne 1 = .ok (.getfield 15, 3) := by decide +kernel
theorem d_N_isOne_4 : decode c_N_isOne 4 = .ok (.iconst 1, 1) := by decide +kernel
theorem d_N_isOne_5 : decode c_N_isOne 5 = .ok (.if_icmp .ne 18, 3) := by decide +kernel
theorem d_N_isOne_8 : decode c_N_isOne 8 = .ok (.aload_n 0, 1) := by decide +kernel
theorem d_N_isOne_9 : decode c_N_isOne 9 = .ok (.getfield 9, 3) := by decide +kernel
theorem d_N_isOne_12 : decode c_N_isOne 12 = .ok (.iconst 0, 1) := by decide +kernel
theorem d_N_isOne_13 : decode c_N_isOne 13 = .ok (.laload, 1) := by decide +kernel
theorem d_N_isOne_14 : decode c_N_isOne 14 = .ok (.lconst 1, 1) := by decide +kernel
theorem d_N_isOne_15 : decode c_N_isOne 15 = .ok (.lcmp, 1) := by decide +kernel
theorem d_N_isOne_16 : decode c_N_isOne 16 = .ok (.ifCond .ne 7, 3) := by decide +kernel
theorem d_N_isOne_19 : decode c_N_isOne 19 = .ok (.iconst 1, 1) := by decide +kernel
theorem d_N_isOne_20 : decode c_N_isOne 20 = .ok (.goto 4, 3) := by decide +kernel
theorem d_N_isOne_23 : decode c_N_isOne 23 = .ok (.iconst 0, 1) := by decide +kernel
theorem d_N_isOne_24 : decode c_N_isOne 24 = .ok (.ireturn, 1) := by decide +kernel
theorem d_N_isZero_0 : decode c_N_isZero 0 = .ok (.aload_n 0, 1) := by decide +kernel
theorem d_N_isZero_1 : decode c_N_isZero 1 = .ok (.getfield 15, 3) := by decide +kernel
theorem d_N_isZero_4 : decode c_N_isZero 4 = .ok (.ifCond .ne 7, 3) := by decide +kernel
theorem d_N_isZero_7 : decode c_N_isZero 7 = .ok (.iconst 1, 1) := by decide +kernel
theorem d_N_isZero_8 : decode c_N_isZero 8 = .ok (.goto 4, 3) := by decide +kernel
theorem d_N_isZero_11 : decode c_N_isZero 11 = .ok (.iconst 0, 1) := by decide +kernel
theorem d_N_isZero_12 : decode c_N_isZero 12 = .ok (.ireturn, 1) := by decide +kernel
theorem d_N_length_0 : decode c_N_length 0 = .ok (.aload_n 0, 1) := by decide +kernel
theorem d_N_length_1 : decode c_N_length 1 = .ok (.getfield 15, 3) := by decide +kernel
theorem d_N_length_4 : decode c_N_length 4 = .ok (.bipush 28, 2) := by decide +kernel
theorem d_N_length_6 : decode c_N_length 6 = .ok (.imul, 1) := by decide +kernel
theorem d_N_length_7 : decode c_N_length 7 = .ok (.aload_n 0, 1) := by decide +kernel
theorem d_N_length_8 : decode c_N_length 8 = .ok (.invokevirtual 23, 3) := by decide +kernel
theorem d_N_length_11 : decode c_N_length 11 = .ok (.isub, 1) := by decide +kernel
theorem d_N_length_12 : decode c_N_length 12 = .ok (.ireturn, 1) := by decide +kernel
theorem d_N_lowLong_0 : decode c_N_lowLong 0 = .ok (.aload_n 0, 1) := by decide +kernel
theorem d_N_lowLong_1 : decode c_N_lowLong 1 = .ok (.iconst 0, 1) := by decide +kernel
theorem d_N_lowLong_2 : decode c_N_lowLong 2 = .ok (.invokevirtual 19, 3) := by decide +kernel
theorem d_N_lowLong_5 : decode c_N_lowLong 5 = .ok (.aload_n 0, 1) := by decide +kernel
theorem d_N_lowLong_6 : decode c_N_lowLong 6 = .ok (.iconst 1, 1) := by decide +kernel
theorem d_N_lowLong_7 : decode c_N_lowLong 7 = .ok (.invokevirtual 19, 3) := by decide +kernel
theorem d_N_lowLong_10 : decode c_N_lowLong 10 = .ok (.bipush 28, 2) := by decide +kernel
theorem d_N_lowLong_12 : decode c_N_lowLong 12 = .ok (.lshl, 1) := by decide +kernel
theorem d_N_lowLong_13 : decode c_N_lowLong 13 = .ok (.lor, 1) := by decide +kernel
theorem d_N_lowLong_14 : decode c_N_lowLong 14 = .ok (.aload_n 0, 1) := by decide +kernel
theorem d_N_lowLong_15 : decode c_N_lowLong 15 = .ok (.iconst 2, 1) := by decide +kernel
theorem d_N_lowLong_16 : decode c_N_lowLong 16 = .ok (.invokevirtual 19, 3) := by decide +kernel
theorem d_N_lowLong_19 : decode c_N_lowLong 19 = .ok (.bipush 56, 2) := by decide +kernel
theorem d_N_lowLong_21 : decode c_N_lowLong 21 = .ok (.lshl, 1) := by decide +kernel
theorem d_N_lowLong_22 : decode c_N_lowLong 22 = .ok (.lor, 1) := by decide +kernel
theorem d_N_lowLong_23 : decode c_N_lowLong 23 = .ok (.lreturn, 1) := by decide +kernel
theorem d_N_order_0 : decode c_N_order 0 = .ok (.aload_n 0, 1) := by decide +kernel
theorem d_N_order_1 : decode c_N_order 1 = .ok (.getfield 15, 3) := by decide +kernel
theorem d_N_order_4 : decode c_N_order 4 = .ok (.aload_n 1, 1) := by decide +kernel
theorem d_N_order_5 : decode c_N_order 5 = .ok (.getfield 15, 3) := by decide +kernel
theorem d_N_order_8 : decode c_N_order 8 = .ok (.if_icmp .eq 20, 3) := by decide +kernel
theorem d_N_order_11 : decode c_N_order 11 = .ok (.aload_n 0, 1) := by decide +kernel
theorem d_N_order_12 : decode c_N_order 12 = .ok (.getfield 15, 3) := by decide +kernel
theorem d_N_order_15 : decode c_N_order 15 = .ok (.aload_n 1, 1) := by decide +kernel
theorem d_N_order_16 : decode c_N_order 16 = .ok (.getfield 15, 3) := by decide +kernel
theorem d_N_order_19 : decode c_N_order 19 = .ok (.if_icmp .ge 7, 3) := by decide +kernel
theorem d_N_order_22 : decode c_N_order 22 = .ok (.iconst (-1), 1) := by decide +kernel
theorem d_N_order_23 : decode c_N_order 23 = .ok (.goto 4, 3) := by decide +kernel
theorem d_N_order_26 : decode c_N_order 26 = .ok (.iconst 1, 1) := by decide +kernel
theorem d_N_order_27 : decode c_N_order 27 = .ok (.ireturn, 1) := by decide +kernel
theorem d_N_order_28 : decode c_N_order 28 = .ok (.aload_n 0, 1) := by decide +kernel
theorem d_N_order_29 : decode c_N_order 29 = .ok (.getfield 15, 3) := by decide +kernel
theorem d_N_order_32 : decode c_N_order 32 = .ok (.iconst 1, 1) := by decide +kernel
theorem d_N_order_33 : decode c_N_order 33 = .ok (.isub, 1) := by decide +kernel
theorem d_N_order_34 : decode c_N_order 34 = .ok (.istore_n 2, 1) := by decide +kernel
theorem d_N_order_35 : decode c_N_order 35 = .ok (.iload_n 2, 1) := by decide +kernel
theorem d_N_order_36 : decode c_N_order 36 = .ok (.ifCond .lt 47, 3) := by decide +kernel
theorem d_N_order_39 : decode c_N_order 39 = .ok (.aload_n 0, 1) := by decide +kernel
theorem d_N_order_40 : decode c_N_order 40 = .ok (.getfield 9, 3) := by decide +kernel
theorem d_N_order_43 : decode c_N_order 43 = .ok (.iload_n 2, 1) := by decide +kernel
theorem d_N_order_44 : decode c_N_order 44 = .ok (.laload, 1) := by decide +kernel
theorem d_N_order_45 : decode c_N_order 45 = .ok (.aload_n 1, 1) := by decide +kernel
theorem d_N_order_46 : decode c_N_order 46 = .ok (.getfield 9, 3) := by decide +kernel
theorem d_N_order_49 : decode c_N_order 49 = .ok (.iload_n 2, 1) := by decide +kernel
theorem d_N_order_50 : decode c_N_order 50 = .ok (.laload, 1) := by decide +kernel
theorem d_N_order_51 : decode c_N_order 51 = .ok (.lcmp, 1) := by decide +kernel
theorem d_N_order_52 : decode c_N_order 52 = .ok (.ifCond .eq 25, 3) := by decide +kernel
theorem d_N_order_55 : decode c_N_order 55 = .ok (.aload_n 0, 1) := by decide +kernel
theorem d_N_order_56 : decode c_N_order 56 = .ok (.getfield 9, 3) := by decide +kernel
theorem d_N_order_59 : decode c_N_order 59 = .ok (.iload_n 2, 1) := by decide +kernel
theorem d_N_order_60 : decode c_N_order 60 = .ok (.laload, 1) := by decide +kernel
theorem d_N_order_61 : decode c_N_order 61 = .ok (.aload_n 1, 1) := by decide +kernel
theorem d_N_order_62 : decode c_N_order 62 = .ok (.getfield 9, 3) := by decide +kernel
theorem d_N_order_65 : decode c_N_order 65 = .ok (.iload_n 2, 1) := by decide +kernel
theorem d_N_order_66 : decode c_N_order 66 = .ok (.laload, 1) := by decide +kernel
theorem d_N_order_67 : decode c_N_order 67 = .ok (.lcmp, 1) := by decide +kernel
theorem d_N_order_68 : decode c_N_order 68 = .ok (.ifCond .ge 7, 3) := by decide +kernel
theorem d_N_order_71 : decode c_N_order 71 = .ok (.iconst (-1), 1) := by decide +kernel
theorem d_N_order_72 : decode c_N_order 72 = .ok (.goto 4, 3) := by decide +kernel
theorem d_N_order_75 : decode c_N_order 75 = .ok (.iconst 1, 1) := by decide +kernel
theorem d_N_order_76 : decode c_N_order 76 = .ok (.ireturn, 1) := by decide +kernel
theorem d_N_order_77 : decode c_N_order 77 = .ok (.iinc 2 (-1), 3) := by decide +kernel
theorem d_N_order_80 : decode c_N_order 80 = .ok (.goto (-45), 3) := by decide +kernel
theorem d_N_order_83 : decode c_N_order 83 = .ok (.iconst 0, 1) := by decide +kernel
theorem d_N_order_84 : decode c_N_order 84 = .ok (.ireturn, 1) := by decide +kernel
theorem d_N_popDigit_0 : decode c_N_popDigit 0 = .ok (.lconst 0, 1) := by decide +kernel
theorem d_N_popDigit_1 : decode c_N_popDigit 1 = .ok (.lstore_n 2, 1) := by decide +kernel
theorem d_N_popDigit_2 : decode c_N_popDigit 2 = .ok (.aload_n 0, 1) := by decide +kernel
theorem d_N_popDigit_3 : decode c_N_popDigit 3 = .ok (.getfield 15, 3) := by decide +kernel
theorem d_N_popDigit_6 : decode c_N_popDigit 6 = .ok (.iconst 1, 1) := by decide +kernel
theorem d_N_popDigit_7 : decode c_N_popDigit 7 = .ok (.isub, 1) := by decide +kernel
theorem d_N_popDigit_8 : decode c_N_popDigit 8 = .ok (.istore 4, 2) := by decide +kernel
theorem d_N_popDigit_10 : decode c_N_popDigit 10 = .ok (.iload 4, 2) := by decide +kernel
theorem d_N_popDigit_12 : decode c_N_popDigit 12 = .ok (.ifCond .lt 42, 3) := by decide +kernel
theorem d_N_popDigit_15 : decode c_N_popDigit 15 = .ok (.lload_n 2, 1) := by decide +kernel
theorem d_N_popDigit_16 : decode c_N_popDigit 16 = .ok (.ldc2_w 60, 3) := by decide +kernel
theorem d_N_popDigit_19 : decode c_N_popDigit 19 = .ok (.lmul, 1) := by decide +kernel
theorem d_N_popDigit_20 : decode c_N_popDigit 20 = .ok (.aload_n 0, 1) := by decide +kernel
theorem d_N_popDigit_21 : decode c_N_popDigit 21 = .ok (.getfield 9, 3) := by decide +kernel
theorem d_N_popDigit_24 : decode c_N_popDigit 24 = .ok (.iload 4, 2) := by decide +kernel
theorem d_N_popDigit_26 : decode c_N_popDigit 26 = .ok (.laload, 1) := by decide +kernel
theorem d_N_popDigit_27 : decode c_N_popDigit 27 = .ok (.ladd, 1) := by decide +kernel
theorem d_N_popDigit_28 : decode c_N_popDigit 28 = .ok (.lstore 5, 2) := by decide +kernel
theorem d_N_popDigit_30 : decode c_N_popDigit 30 = .ok (.aload_n 0, 1) := by decide +kernel
theorem d_N_popDigit_31 : decode c_N_popDigit 31 = .ok (.getfield 9, 3) := by decide +kernel
theorem d_N_popDigit_34 : decode c_N_popDigit 34 = .ok (.iload 4, 2) := by decide +kernel
theorem d_N_popDigit_36 : decode c_N_popDigit 36 = .ok (.lload 5, 2) := by decide +kernel
theorem d_N_popDigit_38 : decode c_N_popDigit 38 = .ok (.iload_n 1, 1) := by decide +kernel
theorem d_N_popDigit_39 : decode c_N_popDigit 39 = .ok (.i2l, 1) := by decide +kernel
theorem d_N_popDigit_40 : decode c_N_popDigit 40 = .ok (.ldiv, 1) := by decide +kernel
theorem d_N_popDigit_41 : decode c_N_popDigit 41 = .ok (.lastore, 1) := by decide +kernel
theorem d_N_popDigit_42 : decode c_N_popDigit 42 = .ok (.lload 5, 2) := by decide +kernel
theorem d_N_popDigit_44 : decode c_N_popDigit 44 = .ok (.iload_n 1, 1) := by decide +kernel
theorem d_N_popDigit_45 : decode c_N_popDigit 45 = .ok (.i2l, 1) := by decide +kernel
theorem d_N_popDigit_46 : decode c_N_popDigit 46 = .ok (.lrem, 1) := by decide +kernel
theorem d_N_popDigit_47 : decode c_N_popDigit 47 = .ok (.lstore_n 2, 1) := by decide +kernel
theorem d_N_popDigit_48 : decode c_N_popDigit 48 = .ok (.iinc 4 (-1), 3) := by decide +kernel
theorem d_N_popDigit_51 : decode c_N_popDigit 51 = .ok (.goto (-41), 3) := by decide +kernel
theorem d_N_popDigit_54 : decode c_N_popDigit 54 = .ok (.aload_n 0, 1) := by decide +kernel
theorem d_N_popDigit_55 : decode c_N_popDigit 55 = .ok (.aload_n 0, 1) := by decide +kernel
theorem d_N_popDigit_56 : decode c_N_popDigit 56 = .ok (.getfield 15, 3) := by decide +kernel
theorem d_N_popDigit_59 : decode c_N_popDigit 59 = .ok (.invokevirtual 39, 3) := by decide +kernel
theorem d_N_popDigit_62 : decode c_N_popDigit 62 = .ok (.lload_n 2, 1) := by decide +kernel
theorem d_N_popDigit_63 : decode c_N_popDigit 63 = .ok (.l2i, 1) := by decide +kernel
theorem d_N_popDigit_64 : decode c_N_popDigit 64 = .ok (.ireturn, 1) := by decide +kernel
theorem d_N_pushDigit_0 : decode c_N_pushDigit 0 = .ok (.iload_n 2, 1) := by decide +kernel
theorem d_N_pushDigit_1 : decode c_N_pushDigit 1 = .ok (.i2l, 1) := by decide +kernel
theorem d_N_pushDigit_2 : decode c_N_pushDigit 2 = .ok (.lstore_n 3, 1) := by decide +kernel
theorem d_N_pushDigit_3 : decode c_N_pushDigit 3 = .ok (.aload_n 0, 1) := by decide +kernel
theorem d_N_pushDigit_4 : decode c_N_pushDigit 4 = .ok (.getfield 15, 3) := by decide +kernel
theorem d_N_pushDigit_7 : decode c_N_pushDigit 7 = .ok (.istore 5, 2) := by decide +kernel
theorem d_N_pushDigit_9 : decode c_N_pushDigit 9 = .ok (.iconst 0, 1) := by decide +kernel
theorem d_N_pushDigit_10 : decode c_N_pushDigit 10 = .ok (.istore 6, 2) := by decide +kernel
theorem d_N_pushDigit_12 : decode c_N_pushDigit 12 = .ok (.iload 6, 2) := by decide +kernel
theorem d_N_pushDigit_14 : decode c_N_pushDigit 14 = .ok (.iload 5, 2) := by decide +kernel
theorem d_N_pushDigit_16 : decode c_N_pushDigit 16 = .ok (.if_icmp .ge 39, 3) := by decide +kernel
theorem d_N_pushDigit_19 : decode c_N_pushDigit 19 = .ok (.lload_n 3, 1) := by decide +kernel
theorem d_N_pushDigit_20 : decode c_N_pushDigit 20 = .ok (.aload_n 0, 1) := by decide +kernel
theorem d_N_pushDigit_21 : decode c_N_pushDigit 21 = .ok (.getfield 9, 3) := by decide +kernel
theorem d_N_pushDigit_24 : decode c_N_pushDigit 24 = .ok (.iload 6, 2) := by decide +kernel
theorem d_N_pushDigit_26 : decode c_N_pushDigit 26 = .ok (.laload, 1) := by decide +kernel
theorem d_N_pushDigit_27 : decode c_N_pushDigit 27 = .ok (.iload_n 1, 1) := by decide +kernel
theorem d_N_pushDigit_28 : decode c_N_pushDigit 28 = .ok (.i2l, 1) := by decide +kernel
theorem d_N_pushDigit_29 : decode c_N_pushDigit 29 = .ok (.lmul, 1) := by decide +kernel
theorem d_N_pushDigit_30 : decode c_N_pushDigit 30 = .ok (.ladd, 1) := by decide +kernel
theorem d_N_pushDigit_31 : decode c_N_pushDigit 31 = .ok (.lstore_n 3, 1) := by decide +kernel
theorem d_N_pushDigit_32 : decode c_N_pushDigit 32 = .ok (.aload_n 0, 1) := by decide +kernel
theorem d_N_pushDigit_33 : decode c_N_pushDigit 33 = .ok (.getfield 9, 3) := by decide +kernel
theorem d_N_pushDigit_36 : decode c_N_pushDigit 36 = .ok (.iload 6, 2) := by decide +kernel
theorem d_N_pushDigit_38 : decode c_N_pushDigit 38 = .ok (.lload_n 3, 1) := by decide +kernel
theorem d_N_pushDigit_39 : decode c_N_pushDigit 39 = .ok (.ldc2_w 43, 3) := by decide +kernel
theorem d_N_pushDigit_42 : decode c_N_pushDigit 42 = .ok (.land, 1) := by decide +kernel
theorem d_N_pushDigit_43 : decode c_N_pushDigit 43 = .ok (.lastore, 1) := by decide +kernel
theorem d_N_pushDigit_44 : decode c_N_pushDigit 44 = .ok (.lload_n 3, 1) := by decide +kernel
theorem d_N_pushDigit_45 : decode c_N_pushDigit 45 = .ok (.bipush 28, 2) := by decide +kernel
theorem d_N_pushDigit_47 : decode c_N_pushDigit 47 = .ok (.lshr, 1) := by decide +kernel
theorem d_N_pushDigit_48 : decode c_N_pushDigit 48 = .ok (.lstore_n 3, 1) := by decide +kernel
theorem d_N_pushDigit_49 : decode c_N_pushDigit 49 = .ok (.iinc 6 1, 3) := by decide +kernel
theorem d_N_pushDigit_52 : decode c_N_pushDigit 52 = .ok (.goto (-40), 3) := by decide +kernel
theorem d_N_pushDigit_55 : decode c_N_pushDigit 55 = .ok (.aload_n 0, 1) := by decide +kernel
theorem d_N_pushDigit_56 : decode c_N_pushDigit 56 = .ok (.getfield 9, 3) := by decide +kernel
theorem d_N_pushDigit_59 : decode c_N_pushDigit 59 = .ok (.iload 5, 2) := by decide +kernel
theorem d_N_pushDigit_61 : decode c_N_pushDigit 61 = .ok (.lload_n 3, 1) := by decide +kernel
theorem d_N_pushDigit_62 : decode c_N_pushDigit 62 = .ok (.lastore, 1) := by decide +kernel
theorem d_N_pushDigit_63 : decode c_N_pushDigit 63 = .ok (.aload_n 0, 1) := by decide +kernel
theorem d_N_pushDigit_64 : decode c_N_pushDigit 64 = .ok (.iload 5, 2) := by decide +kernel
theorem d_N_pushDigit_66 : decode c_N_pushDigit 66 = .ok (.iconst 1, 1) := by decide +kernel
theorem d_N_pushDigit_67 : decode c_N_pushDigit 67 = .ok (.iadd, 1) := by decide +kernel
theorem d_N_pushDigit_68 : decode c_N_pushDigit 68 = .ok (.invokevirtual 39, 3) := by decide +kernel
theorem d_N_pushDigit_71 : decode c_N_pushDigit 71 = .ok (.return_, 1) := by decide +kernel
theorem d_N_putBit_0 : decode c_N_putBit 0 = .ok (.iload_n 1, 1) := by decide +kernel
theorem d_N_putBit_1 : decode c_N_putBit 1 = .ok (.bipush 28, 2) := by decide +kernel
theorem d_N_putBit_3 : decode c_N_putBit 3 = .ok (.idiv, 1) := by decide +kernel
theorem d_N_putBit_4 : decode c_N_putBit 4 = .ok (.istore_n 2, 1) := by decide +kernel
theorem d_N_putBit_5 : decode c_N_putBit 5 = .ok (.iload_n 2, 1) := by decide +kernel
theorem d_N_putBit_6 : decode c_N_putBit 6 = .ok (.ifCond .lt 9, 3) := by decide +kernel
theorem d_N_putBit_9 : decode c_N_putBit 9 = .ok (.iload_n 2, 1) := by decide +kernel
theorem d_N_putBit_10 : decode c_N_putBit 10 = .ok (.bipush 75, 2) := by decide +kernel
theorem d_N_putBit_12 : decode c_N_putBit 12 = .ok (.if_icmp .lt 4, 3) := by decide +kernel
theorem d_N_putBit_15 : decode c_N_putBit 15 = .ok (.return_, 1) := by decide +kernel
theorem d_N_putBit_16 : decode c_N_putBit 16 = .ok (.aload_n 0, 1) := by decide +kernel
theorem d_N_putBit_17 : decode c_N_putBit 17 = .ok (.getfield 9, 3) := by decide +kernel
theorem d_N_putBit_20 : decode c_N_putBit 20 = .ok (.iload_n 2, 1) := by decide +kernel
theorem d_N_putBit_21 : decode c_N_putBit 21 = .ok (.dup2, 1) := by decide +kernel
theorem d_N_putBit_22 : decode c_N_putBit 22 = .ok (.laload, 1) := by decide +kernel
theorem d_N_putBit_23 : decode c_N_putBit 23 = .ok (.lconst 1, 1) := by decide +kernel
theorem d_N_putBit_24 : decode c_N_putBit 24 = .ok (.iload_n 1, 1) := by decide +kernel
theorem d_N_putBit_25 : decode c_N_putBit 25 = .ok (.bipush 28, 2) := by decide +kernel
theorem d_N_putBit_27 : decode c_N_putBit 27 = .ok (.irem, 1) := by decide +kernel
theorem d_N_putBit_28 : decode c_N_putBit 28 = .ok (.lshl, 1) := by decide +kernel
theorem d_N_putBit_29 : decode c_N_putBit 29 = .ok (.lor, 1) := by decide +kernel
theorem d_N_putBit_30 : decode c_N_putBit 30 = .ok (.lastore, 1) := by decide +kernel
theorem d_N_putBit_31 : decode c_N_putBit 31 = .ok (.aload_n 0, 1) := by decide +kernel
theorem d_N_putBit_32 : decode c_N_putBit 32 = .ok (.aload_n 0, 1) := by decide +kernel
theorem d_N_putBit_33 : decode c_N_putBit 33 = .ok (.getfield 15, 3) := by decide +kernel
theorem d_N_putBit_36 : decode c_N_putBit 36 = .ok (.iload_n 2, 1) := by decide +kernel
theorem d_N_putBit_37 : decode c_N_putBit 37 = .ok (.iconst 1, 1) := by decide +kernel
theorem d_N_putBit_38 : decode c_N_putBit 38 = .ok (.iadd, 1) := by decide +kernel
theorem d_N_putBit_39 : decode c_N_putBit 39 = .ok (.invokestatic 45, 3) := by decide +kernel
theorem d_N_putBit_42 : decode c_N_putBit 42 = .ok (.putfield 15, 3) := by decide +kernel
theorem d_N_putBit_45 : decode c_N_putBit 45 = .ok (.return_, 1) := by decide +kernel
theorem d_N_settle_0 : decode c_N_settle 0 = .ok (.iload_n 1, 1) := by decide +kernel
theorem d_N_settle_1 : decode c_N_settle 1 = .ok (.istore_n 2, 1) := by decide +kernel
theorem d_N_settle_2 : decode c_N_settle 2 = .ok (.iload_n 2, 1) := by decide +kernel
theorem d_N_settle_3 : decode c_N_settle 3 = .ok (.aload_n 0, 1) := by decide +kernel
theorem d_N_settle_4 : decode c_N_settle 4 = .ok (.getfield 15, 3) := by decide +kernel
theorem d_N_settle_7 : decode c_N_settle 7 = .ok (.if_icmp .ge 16, 3) := by decide +kernel
theorem d_N_settle_10 : decode c_N_settle 10 = .ok (.aload_n 0, 1) := by decide +kernel
theorem d_N_settle_11 : decode c_N_settle 11 = .ok (.getfield 9, 3) := by decide +kernel
theorem d_N_settle_14 : decode c_N_settle 14 = .ok (.iload_n 2, 1) := by decide +kernel
theorem d_N_settle_15 : decode c_N_settle 15 = .ok (.lconst 0, 1) := by decide +kernel
theorem d_N_settle_16 : decode c_N_settle 16 = .ok (.lastore, 1) := by decide +kernel
theorem d_N_settle_17 : decode c_N_settle 17 = .ok (.iinc 2 1, 3) := by decide +kernel
theorem d_N_settle_20 : decode c_N_settle 20 = .ok (.goto (-18), 3) := by decide +kernel
theorem d_N_settle_23 : decode c_N_settle 23 = .ok (.aload_n 0, 1) := by decide +kernel
theorem d_N_settle_24 : decode c_N_settle 24 = .ok (.iload_n 1, 1) := by decide +kernel
theorem d_N_settle_25 : decode c_N_settle 25 = .ok (.putfield 15, 3) := by decide +kernel
theorem d_N_settle_28 : decode c_N_settle 28 = .ok (.aload_n 0, 1) := by decide +kernel
theorem d_N_settle_29 : decode c_N_settle 29 = .ok (.getfield 15, 3) := by decide +kernel
theorem d_N_settle_32 : decode c_N_settle 32 = .ok (.ifCond .le 32, 3) := by decide +kernel
theorem d_N_settle_35 : decode c_N_settle 35 = .ok (.aload_n 0, 1) := by decide +kernel
theorem d_N_settle_36 : decode c_N_settle 36 = .ok (.getfield 9, 3) := by decide +kernel
theorem d_N_settle_39 : decode c_N_settle 39 = .ok (.aload_n 0, 1) := by decide +kernel
theorem d_N_settle_40 : decode c_N_settle 40 = .ok (.getfield 15, 3) := by decide +kernel
theorem d_N_settle_43 : decode c_N_settle 43 = .ok (.iconst 1, 1) := by decide +kernel
theorem d_N_settle_44 : decode c_N_settle 44 = .ok (.isub, 1) := by decide +kernel
theorem d_N_settle_45 : decode c_N_settle 45 = .ok (.laload, 1) := by decide +kernel
theorem d_N_settle_46 : decode c_N_settle 46 = .ok (.lconst 0, 1) := by decide +kernel
theorem d_N_settle_47 : decode c_N_settle 47 = .ok (.lcmp, 1) := by decide +kernel
theorem d_N_settle_48 : decode c_N_settle 48 = .ok (.ifCond .ne 16, 3) := by decide +kernel
theorem d_N_settle_51 : decode c_N_settle 51 = .ok (.aload_n 0, 1) := by decide +kernel
theorem d_N_settle_52 : decode c_N_settle 52 = .ok (.dup, 1) := by decide +kernel
theorem d_N_settle_53 : decode c_N_settle 53 = .ok (.getfield 15, 3) := by decide +kernel
theorem d_N_settle_56 : decode c_N_settle 56 = .ok (.iconst 1, 1) := by decide +kernel
theorem d_N_settle_57 : decode c_N_settle 57 = .ok (.isub, 1) := by decide +kernel
theorem d_N_settle_58 : decode c_N_settle 58 = .ok (.putfield 15, 3) := by decide +kernel
theorem d_N_settle_61 : decode c_N_settle 61 = .ok (.goto (-33), 3) := by decide +kernel
theorem d_N_settle_64 : decode c_N_settle 64 = .ok (.return_, 1) := by decide +kernel
theorem d_N_spareBits_0 : decode c_N_spareBits 0 = .ok (.aload_n 0, 1) := by decide +kernel
theorem d_N_spareBits_1 : decode c_N_spareBits 1 = .ok (.getfield 15, 3) := by decide +kernel
theorem d_N_spareBits_4 : decode c_N_spareBits 4 = .ok (.ifCond .ne 7, 3) := by decide +kernel
theorem d_N_spareBits_7 : decode c_N_spareBits 7 = .ok (.iconst 0, 1) := by decide +kernel
theorem d_N_spareBits_8 : decode c_N_spareBits 8 = .ok (.goto 20, 3) := by decide +kernel
theorem d_N_spareBits_11 : decode c_N_spareBits 11 = .ok (.aload_n 0, 1) := by decide +kernel
theorem d_N_spareBits_12 : decode c_N_spareBits 12 = .ok (.getfield 9, 3) := by decide +kernel
theorem d_N_spareBits_15 : decode c_N_spareBits 15 = .ok (.aload_n 0, 1) := by decide +kernel
theorem d_N_spareBits_16 : decode c_N_spareBits 16 = .ok (.getfield 15, 3) := by decide +kernel
theorem d_N_spareBits_19 : decode c_N_spareBits 19 = .ok (.iconst 1, 1) := by decide +kernel
theorem d_N_spareBits_20 : decode c_N_spareBits 20 = .ok (.isub, 1) := by decide +kernel
theorem d_N_spareBits_21 : decode c_N_spareBits 21 = .ok (.laload, 1) := by decide +kernel
theorem d_N_spareBits_22 : decode c_N_spareBits 22 = .ok (.invokestatic 27, 3) := by decide +kernel
theorem d_N_spareBits_25 : decode c_N_spareBits 25 = .ok (.bipush 36, 2) := by decide +kernel
theorem d_N_spareBits_27 : decode c_N_spareBits 27 = .ok (.isub, 1) := by decide +kernel
theorem d_N_spareBits_28 : decode c_N_spareBits 28 = .ok (.ireturn, 1) := by decide +kernel
theorem d_N_take_0 : decode c_N_take 0 = .ok (.aload_n 1, 1) := by decide +kernel
theorem d_N_take_1 : decode c_N_take 1 = .ok (.getfield 15, 3) := by decide +kernel
theorem d_N_take_4 : decode c_N_take 4 = .ok (.istore_n 2, 1) := by decide +kernel
theorem d_N_take_5 : decode c_N_take 5 = .ok (.iconst 0, 1) := by decide +kernel
theorem d_N_take_6 : decode c_N_take 6 = .ok (.istore_n 3, 1) := by decide +kernel
theorem d_N_take_7 : decode c_N_take 7 = .ok (.iload_n 3, 1) := by decide +kernel
theorem d_N_take_8 : decode c_N_take 8 = .ok (.iload_n 2, 1) := by decide +kernel
theorem d_N_take_9 : decode c_N_take 9 = .ok (.if_icmp .ge 21, 3) := by decide +kernel
theorem d_N_take_12 : decode c_N_take 12 = .ok (.aload_n 0, 1) := by decide +kernel
theorem d_N_take_13 : decode c_N_take 13 = .ok (.getfield 9, 3) := by decide +kernel
theorem d_N_take_16 : decode c_N_take 16 = .ok (.iload_n 3, 1) := by decide +kernel
theorem d_N_take_17 : decode c_N_take 17 = .ok (.aload_n 1, 1) := by decide +kernel
theorem d_N_take_18 : decode c_N_take 18 = .ok (.getfield 9, 3) := by decide +kernel
theorem d_N_take_21 : decode c_N_take 21 = .ok (.iload_n 3, 1) := by decide +kernel
theorem d_N_take_22 : decode c_N_take 22 = .ok (.laload, 1) := by decide +kernel
theorem d_N_take_23 : decode c_N_take 23 = .ok (.lastore, 1) := by decide +kernel
theorem d_N_take_24 : decode c_N_take 24 = .ok (.iinc 3 1, 3) := by decide +kernel
theorem d_N_take_27 : decode c_N_take 27 = .ok (.goto (-20), 3) := by decide +kernel
theorem d_N_take_30 : decode c_N_take 30 = .ok (.aload_n 0, 1) := by decide +kernel
theorem d_N_take_31 : decode c_N_take 31 = .ok (.iload_n 2, 1) := by decide +kernel
theorem d_N_take_32 : decode c_N_take 32 = .ok (.invokevirtual 39, 3) := by decide +kernel
theorem d_N_take_35 : decode c_N_take 35 = .ok (.return_, 1) := by decide +kernel
theorem d_N_takeDifference_0 : decode c_N_takeDifference 0 = .ok (.aload_n 1, 1) := by decide +kernel
theorem d_N_takeDifference_1 : decode c_N_takeDifference 1 = .ok (.getfield 15, 3) := by decide +kernel
theorem d_N_takeDifference_4 : decode c_N_takeDifference 4 = .ok (.istore_n 3, 1) := by decide +kernel
theorem d_N_takeDifference_5 : decode c_N_takeDifference 5 = .ok (.lconst 0, 1) := by decide +kernel
theorem d_N_takeDifference_6 : decode c_N_takeDifference 6 = .ok (.lstore 4, 2) := by decide +kernel
theorem d_N_takeDifference_8 : decode c_N_takeDifference 8 = .ok (.iconst 0, 1) := by decide +kernel
theorem d_N_takeDifference_9 : decode c_N_takeDifference 9 = .ok (.istore 6, 2) := by decide +kernel
theorem d_N_takeDifference_11 : decode c_N_takeDifference 11 = .ok (.iload 6, 2) := by decide +kernel
theorem d_N_takeDifference_13 : decode c_N_takeDifference 13 = .ok (.iload_n 3, 1) := by decide +kernel
theorem d_N_takeDifference_14 : decode c_N_takeDifference 14 = .ok (.if_icmp .ge 49, 3) := by decide +kernel
theorem d_N_takeDifference_17 : decode c_N_takeDifference 17 = .ok (.lload 4, 2) := by decide +kernel
theorem d_N_takeDifference_19 : decode c_N_takeDifference 19 = .ok (.aload_n 1, 1) := by decide +kernel
theorem d_N_takeDifference_20 : decode c_N_takeDifference 20 = .ok (.getfield 9, 3) := by decide +kernel
theorem d_N_takeDifference_23 : decode c_N_takeDifference 23 = .ok (.iload 6, 2) := by decide +kernel
theorem d_N_takeDifference_25 : decode c_N_takeDifference 25 = .ok (.laload, 1) := by decide +kernel
theorem d_N_takeDifference_26 : decode c_N_takeDifference 26 = .ok (.aload_n 2, 1) := by decide +kernel
theorem d_N_takeDifference_27 : decode c_N_takeDifference 27 = .ok (.getfield 9, 3) := by decide +kernel
theorem d_N_takeDifference_30 : decode c_N_takeDifference 30 = .ok (.iload 6, 2) := by decide +kernel
theorem d_N_takeDifference_32 : decode c_N_takeDifference 32 = .ok (.laload, 1) := by decide +kernel
theorem d_N_takeDifference_33 : decode c_N_takeDifference 33 = .ok (.lsub, 1) := by decide +kernel
theorem d_N_takeDifference_34 : decode c_N_takeDifference 34 = .ok (.ladd, 1) := by decide +kernel
theorem d_N_takeDifference_35 : decode c_N_takeDifference 35 = .ok (.lstore 4, 2) := by decide +kernel
theorem d_N_takeDifference_37 : decode c_N_takeDifference 37 = .ok (.aload_n 0, 1) := by decide +kernel
theorem d_N_takeDifference_38 : decode c_N_takeDifference 38 = .ok (.getfield 9, 3) := by decide +kernel
theorem d_N_takeDifference_41 : decode c_N_takeDifference 41 = .ok (.iload 6, 2) := by decide +kernel
theorem d_N_takeDifference_43 : decode c_N_takeDifference 43 = .ok (.lload 4, 2) := by decide +kernel
theorem d_N_takeDifference_45 : decode c_N_takeDifference 45 = .ok (.ldc2_w 43, 3) := by decide +kernel
theorem d_N_takeDifference_48 : decode c_N_takeDifference 48 = .ok (.land, 1) := by decide +kernel
theorem d_N_takeDifference_49 : decode c_N_takeDifference 49 = .ok (.lastore, 1) := by decide +kernel
theorem d_N_takeDifference_50 : decode c_N_takeDifference 50 = .ok (.lload 4, 2) := by decide +kernel
theorem d_N_takeDifference_52 : decode c_N_takeDifference 52 = .ok (.bipush 28, 2) := by decide +kernel
theorem d_N_takeDifference_54 : decode c_N_takeDifference 54 = .ok (.lshr, 1) := by decide +kernel
theorem d_N_takeDifference_55 : decode c_N_takeDifference 55 = .ok (.lstore 4, 2) := by decide +kernel
theorem d_N_takeDifference_57 : decode c_N_takeDifference 57 = .ok (.iinc 6 1, 3) := by decide +kernel
theorem d_N_takeDifference_60 : decode c_N_takeDifference 60 = .ok (.goto (-49), 3) := by decide +kernel
theorem d_N_takeDifference_63 : decode c_N_takeDifference 63 = .ok (.aload_n 0, 1) := by decide +kernel
theorem d_N_takeDifference_64 : decode c_N_takeDifference 64 = .ok (.iload_n 3, 1) := by decide +kernel
theorem d_N_takeDifference_65 : decode c_N_takeDifference 65 = .ok (.invokevirtual 39, 3) := by decide +kernel
theorem d_N_takeDifference_68 : decode c_N_takeDifference 68 = .ok (.return_, 1) := by decide +kernel
theorem d_N_takeLowered_0 : decode c_N_takeLowered 0 = .ok (.iload_n 2, 1) := by decide +kernel
theorem d_N_takeLowered_1 : decode c_N_takeLowered 1 = .ok (.bipush 28, 2) := by decide +kernel
theorem d_N_takeLowered_3 : decode c_N_takeLowered 3 = .ok (.idiv, 1) := by decide +kernel
theorem d_N_takeLowered_4 : decode c_N_takeLowered 4 = .ok (.istore_n 3, 1) := by decide +kernel
theorem d_N_takeLowered_5 : decode c_N_takeLowered 5 = .ok (.iload_n 2, 1) := by decide +kernel
theorem d_N_takeLowered_6 : decode c_N_takeLowered 6 = .ok (.bipush 28, 2) := by decide +kernel
theorem d_N_takeLowered_8 : decode c_N_takeLowered 8 = .ok (.irem, 1) := by decide +kernel
theorem d_N_takeLowered_9 : decode c_N_takeLowered 9 = .ok (.istore 4, 2) := by decide +kernel
theorem d_N_takeLowered_11 : decode c_N_takeLowered 11 = .ok (.aload_n 1, 1) := by decide +kernel
theorem d_N_takeLowered_12 : decode c_N_takeLowered 12 = .ok (.getfield 15, 3) := by decide +kernel
theorem d_N_takeLowered_15 : decode c_N_takeLowered 15 = .ok (.iload_n 3, 1) := by decide +kernel
theorem d_N_takeLowered_16 : decode c_N_takeLowered 16 = .ok (.isub, 1) := by decide +kernel
theorem d_N_takeLowered_17 : decode c_N_takeLowered 17 = .ok (.iconst 0, 1) := by decide +kernel
theorem d_N_takeLowered_18 : decode c_N_takeLowered 18 = .ok (.invokestatic 45, 3) := by decide +kernel
theorem d_N_takeLowered_21 : decode c_N_takeLowered 21 = .ok (.istore 5, 2) := by decide +kernel
theorem d_N_takeLowered_23 : decode c_N_takeLowered 23 = .ok (.aload_n 1, 1) := by decide +kernel
theorem d_N_takeLowered_24 : decode c_N_takeLowered 24 = .ok (.iload_n 3, 1) := by decide +kernel
theorem d_N_takeLowered_25 : decode c_N_takeLowered 25 = .ok (.invokevirtual 19, 3) := by decide +kernel
theorem d_N_takeLowered_28 : decode c_N_takeLowered 28 = .ok (.lstore 6, 2) := by decide +kernel
theorem d_N_takeLowered_30 : decode c_N_takeLowered 30 = .ok (.iconst 0, 1) := by decide +kernel
theorem d_N_takeLowered_31 : decode c_N_takeLowered 31 = .ok (.istore 8, 2) := by decide +kernel
theorem d_N_takeLowered_33 : decode c_N_takeLowered 33 = .ok (.iload 8, 2) := by decide +kernel
theorem d_N_takeLowered_35 : decode c_N_takeLowered 35 = .ok (.iload 5, 2) := by decide +kernel
theorem d_N_takeLowered_37 : decode c_N_takeLowered 37 = .ok (.if_icmp .ge 50, 3) := by decide +kernel
theorem d_N_takeLowered_40 : decode c_N_takeLowered 40 = .ok (.aload_n 1, 1) := by decide +kernel
theorem d_N_takeLowered_41 : decode c_N_takeLowered 41 = .ok (.iload_n 3, 1) := by decide +kernel
theorem d_N_takeLowered_42 : decode c_N_takeLowered 42 = .ok (.iload 8, 2) := by decide +kernel
theorem d_N_takeLowered_44 : decode c_N_takeLowered 44 = .ok (.iadd, 1) := by decide +kernel
theorem d_N_takeLowered_45 : decode c_N_takeLowered 45 = .ok (.iconst 1, 1) := by decide +kernel
theorem d_N_takeLowered_46 : decode c_N_takeLowered 46 = .ok (.iadd, 1) := by decide +kernel
theorem d_N_takeLowered_47 : decode c_N_takeLowered 47 = .ok (.invokevirtual 19, 3) := by decide +kernel
theorem d_N_takeLowered_50 : decode c_N_takeLowered 50 = .ok (.lstore 9, 2) := by decide +kernel
theorem d_N_takeLowered_52 : decode c_N_takeLowered 52 = .ok (.aload_n 0, 1) := by decide +kernel
theorem d_N_takeLowered_53 : decode c_N_takeLowered 53 = .ok (.getfield 9, 3) := by decide +kernel
theorem d_N_takeLowered_56 : decode c_N_takeLowered 56 = .ok (.iload 8, 2) := by decide +kernel
theorem d_N_takeLowered_58 : decode c_N_takeLowered 58 = .ok (.lload 6, 2) := by decide +kernel
theorem d_N_takeLowered_60 : decode c_N_takeLowered 60 = .ok (.iload 4, 2) := by decide +kernel
theorem d_N_takeLowered_62 : decode c_N_takeLowered 62 = .ok (.lshr, 1) := by decide +kernel
theorem d_N_takeLowered_63 : decode c_N_takeLowered 63 = .ok (.lload 9, 2) := by decide +kernel
theorem d_N_takeLowered_65 : decode c_N_takeLowered 65 = .ok (.bipush 28, 2) := by decide +kernel
theorem d_N_takeLowered_67 : decode c_N_takeLowered 67 = .ok (.iload 4, 2) := by decide +kernel
theorem d_N_takeLowered_69 : decode c_N_takeLowered 69 = .ok (.isub, 1) := by decide +kernel
theorem d_N_takeLowered_70 : decode c_N_takeLowered 70 = .ok (.lshl, 1) := by decide +kernel
theorem d_N_takeLowered_71 : decode c_N_takeLowered 71 = .ok (.lor, 1) := by decide +kernel
theorem d_N_takeLowered_72 : decode c_N_takeLowered 72 = .ok (.ldc2_w 43, 3) := by decide +kernel
theorem d_N_takeLowered_75 : decode c_N_takeLowered 75 = .ok (.land, 1) := by decide +kernel
theorem d_N_takeLowered_76 : decode c_N_takeLowered 76 = .ok (.lastore, 1) := by decide +kernel
theorem d_N_takeLowered_77 : decode c_N_takeLowered 77 = .ok (.lload 9, 2) := by decide +kernel
theorem d_N_takeLowered_79 : decode c_N_takeLowered 79 = .ok (.lstore 6, 2) := by decide +kernel
theorem d_N_takeLowered_81 : decode c_N_takeLowered 81 = .ok (.iinc 8 1, 3) := by decide +kernel
theorem d_N_takeLowered_84 : decode c_N_takeLowered 84 = .ok (.goto (-51), 3) := by decide +kernel
theorem d_N_takeLowered_87 : decode c_N_takeLowered 87 = .ok (.aload_n 0, 1) := by decide +kernel
theorem d_N_takeLowered_88 : decode c_N_takeLowered 88 = .ok (.iload 5, 2) := by decide +kernel
theorem d_N_takeLowered_90 : decode c_N_takeLowered 90 = .ok (.invokevirtual 39, 3) := by decide +kernel
theorem d_N_takeLowered_93 : decode c_N_takeLowered 93 = .ok (.return_, 1) := by decide +kernel
theorem d_N_takeProduct_0 : decode c_N_takeProduct 0 = .ok (.aload_n 0, 1) := by decide +kernel
theorem d_N_takeProduct_1 : decode c_N_takeProduct 1 = .ok (.invokevirtual 48, 3) := by decide +kernel
theorem d_N_takeProduct_4 : decode c_N_takeProduct 4 = .ok (.iconst 0, 1) := by decide +kernel
theorem d_N_takeProduct_5 : decode c_N_takeProduct 5 = .ok (.istore_n 3, 1) := by decide +kernel
theorem d_N_takeProduct_6 : decode c_N_takeProduct 6 = .ok (.iload_n 3, 1) := by decide +kernel
theorem d_N_takeProduct_7 : decode c_N_takeProduct 7 = .ok (.aload_n 1, 1) := by decide +kernel
theorem d_N_takeProduct_8 : decode c_N_takeProduct 8 = .ok (.getfield 15, 3) := by decide +kernel
theorem d_N_takeProduct_11 : decode c_N_takeProduct 11 = .ok (.if_icmp .ge 22, 3) := by decide +kernel
theorem d_N_takeProduct_14 : decode c_N_takeProduct 14 = .ok (.aload_n 0, 1) := by decide +kernel
theorem d_N_takeProduct_15 : decode c_N_takeProduct 15 = .ok (.aload_n 2, 1) := by decide +kernel
theorem d_N_takeProduct_16 : decode c_N_takeProduct 16 = .ok (.iconst 0, 1) := by decide +kernel
theorem d_N_takeProduct_17 : decode c_N_takeProduct 17 = .ok (.iload_n 3, 1) := by decide +kernel
theorem d_N_takeProduct_18 : decode c_N_takeProduct 18 = .ok (.aload_n 1, 1) := by decide +kernel
theorem d_N_takeProduct_19 : decode c_N_takeProduct 19 = .ok (.getfield 9, 3) := by decide +kernel
theorem d_N_takeProduct_22 : decode c_N_takeProduct 22 = .ok (.iload_n 3, 1) := by decide +kernel
theorem d_N_takeProduct_23 : decode c_N_takeProduct 23 = .ok (.laload, 1) := by decide +kernel
theorem d_N_takeProduct_24 : decode c_N_takeProduct 24 = .ok (.invokevirtual 51, 3) := by decide +kernel
theorem d_N_takeProduct_27 : decode c_N_takeProduct 27 = .ok (.iinc 3 1, 3) := by decide +kernel
theorem d_N_takeProduct_30 : decode c_N_takeProduct 30 = .ok (.goto (-24), 3) := by decide +kernel
theorem d_N_takeProduct_33 : decode c_N_takeProduct 33 = .ok (.aload_n 0, 1) := by decide +kernel
theorem d_N_takeProduct_34 : decode c_N_takeProduct 34 = .ok (.aload_n 1, 1) := by decide +kernel
theorem d_N_takeProduct_35 : decode c_N_takeProduct 35 = .ok (.getfield 15, 3) := by decide +kernel
theorem d_N_takeProduct_38 : decode c_N_takeProduct 38 = .ok (.aload_n 2, 1) := by decide +kernel
theorem d_N_takeProduct_39 : decode c_N_takeProduct 39 = .ok (.getfield 15, 3) := by decide +kernel
theorem d_N_takeProduct_42 : decode c_N_takeProduct 42 = .ok (.iadd, 1) := by decide +kernel
theorem d_N_takeProduct_43 : decode c_N_takeProduct 43 = .ok (.invokevirtual 55, 3) := by decide +kernel
theorem d_N_takeProduct_46 : decode c_N_takeProduct 46 = .ok (.return_, 1) := by decide +kernel
theorem d_N_takeRaised_0 : decode c_N_takeRaised 0 = .ok (.iload_n 2, 1) := by decide +kernel
theorem d_N_takeRaised_1 : decode c_N_takeRaised 1 = .ok (.bipush 28, 2) := by decide +kernel
theorem d_N_takeRaised_3 : decode c_N_takeRaised 3 = .ok (.idiv, 1) := by decide +kernel
theorem d_N_takeRaised_4 : decode c_N_takeRaised 4 = .ok (.istore_n 3, 1) := by decide +kernel
theorem d_N_takeRaised_5 : decode c_N_takeRaised 5 = .ok (.iload_n 2, 1) := by decide +kernel
theorem d_N_takeRaised_6 : decode c_N_takeRaised 6 = .ok (.bipush 28, 2) := by decide +kernel
theorem d_N_takeRaised_8 : decode c_N_takeRaised 8 = .ok (.irem, 1) := by decide +kernel
theorem d_N_takeRaised_9 : decode c_N_takeRaised 9 = .ok (.istore 4, 2) := by decide +kernel
theorem d_N_takeRaised_11 : decode c_N_takeRaised 11 = .ok (.aload_n 1, 1) := by decide +kernel
theorem d_N_takeRaised_12 : decode c_N_takeRaised 12 = .ok (.getfield 15, 3) := by decide +kernel
theorem d_N_takeRaised_15 : decode c_N_takeRaised 15 = .ok (.iload_n 3, 1) := by decide +kernel
theorem d_N_takeRaised_16 : decode c_N_takeRaised 16 = .ok (.iadd, 1) := by decide +kernel
theorem d_N_takeRaised_17 : decode c_N_takeRaised 17 = .ok (.iconst 1, 1) := by decide +kernel
theorem d_N_takeRaised_18 : decode c_N_takeRaised 18 = .ok (.iadd, 1) := by decide +kernel
theorem d_N_takeRaised_19 : decode c_N_takeRaised 19 = .ok (.istore 5, 2) := by decide +kernel
theorem d_N_takeRaised_21 : decode c_N_takeRaised 21 = .ok (.lconst 0, 1) := by decide +kernel
theorem d_N_takeRaised_22 : decode c_N_takeRaised 22 = .ok (.lstore 6, 2) := by decide +kernel
theorem d_N_takeRaised_24 : decode c_N_takeRaised 24 = .ok (.aload_n 1, 1) := by decide +kernel
theorem d_N_takeRaised_25 : decode c_N_takeRaised 25 = .ok (.getfield 15, 3) := by decide +kernel
theorem d_N_takeRaised_28 : decode c_N_takeRaised 28 = .ok (.istore 8, 2) := by decide +kernel
theorem d_N_takeRaised_30 : decode c_N_takeRaised 30 = .ok (.iload 8, 2) := by decide +kernel
theorem d_N_takeRaised_32 : decode c_N_takeRaised 32 = .ok (.ifCond .le 51, 3) := by decide +kernel
theorem d_N_takeRaised_35 : decode c_N_takeRaised 35 = .ok (.aload_n 1, 1) := by decide +kernel
theorem d_N_takeRaised_36 : decode c_N_takeRaised 36 = .ok (.getfield 9, 3) := by decide +kernel
theorem d_N_takeRaised_39 : decode c_N_takeRaised 39 = .ok (.iload 8, 2) := by decide +kernel
theorem d_N_takeRaised_41 : decode c_N_takeRaised 41 = .ok (.iconst 1, 1) := by decide +kernel
theorem d_N_takeRaised_42 : decode c_N_takeRaised 42 = .ok (.isub, 1) := by decide +kernel
theorem d_N_takeRaised_43 : decode c_N_takeRaised 43 = .ok (.laload, 1) := by decide +kernel
theorem d_N_takeRaised_44 : decode c_N_takeRaised 44 = .ok (.lstore 9, 2) := by decide +kernel
theorem d_N_takeRaised_46 : decode c_N_takeRaised 46 = .ok (.aload_n 0, 1) := by decide +kernel
theorem d_N_takeRaised_47 : decode c_N_takeRaised 47 = .ok (.getfield 9, 3) := by decide +kernel
theorem d_N_takeRaised_50 : decode c_N_takeRaised 50 = .ok (.iload_n 3, 1) := by decide +kernel
theorem d_N_takeRaised_51 : decode c_N_takeRaised 51 = .ok (.iload 8, 2) := by decide +kernel
theorem d_N_takeRaised_53 : decode c_N_takeRaised 53 = .ok (.iadd, 1) := by decide +kernel
theorem d_N_takeRaised_54 : decode c_N_takeRaised 54 = .ok (.lload 6, 2) := by decide +kernel
theorem d_N_takeRaised_56 : decode c_N_takeRaised 56 = .ok (.iload 4, 2) := by decide +kernel
theorem d_N_takeRaised_58 : decode c_N_takeRaised 58 = .ok (.lshl, 1) := by decide +kernel
theorem d_N_takeRaised_59 : decode c_N_takeRaised 59 = .ok (.lload 9, 2) := by decide +kernel
theorem d_N_takeRaised_61 : decode c_N_takeRaised 61 = .ok (.bipush 28, 2) := by decide +kernel
theorem d_N_takeRaised_63 : decode c_N_takeRaised 63 = .ok (.iload 4, 2) := by decide +kernel
theorem d_N_takeRaised_65 : decode c_N_takeRaised 65 = .ok (.isub, 1) := by decide +kernel
theorem d_N_takeRaised_66 : decode c_N_takeRaised 66 = .ok (.lshr, 1) := by decide +kernel
theorem d_N_takeRaised_67 : decode c_N_takeRaised 67 = .ok (.lor, 1) := by decide +kernel
theorem d_N_takeRaised_68 : decode c_N_takeRaised 68 = .ok (.ldc2_w 43, 3) := by decide +kernel
theorem d_N_takeRaised_71 : decode c_N_takeRaised 71 = .ok (.land, 1) := by decide +kernel
theorem d_N_takeRaised_72 : decode c_N_takeRaised 72 = .ok (.lastore, 1) := by decide +kernel
theorem d_N_takeRaised_73 : decode c_N_takeRaised 73 = .ok (.lload 9, 2) := by decide +kernel
theorem d_N_takeRaised_75 : decode c_N_takeRaised 75 = .ok (.lstore 6, 2) := by decide +kernel
theorem d_N_takeRaised_77 : decode c_N_takeRaised 77 = .ok (.iinc 8 (-1), 3) := by decide +kernel
theorem d_N_takeRaised_80 : decode c_N_takeRaised 80 = .ok (.goto (-50), 3) := by decide +kernel
theorem d_N_takeRaised_83 : decode c_N_takeRaised 83 = .ok (.aload_n 0, 1) := by decide +kernel
theorem d_N_takeRaised_84 : decode c_N_takeRaised 84 = .ok (.getfield 9, 3) := by decide +kernel
theorem d_N_takeRaised_87 : decode c_N_takeRaised 87 = .ok (.iload_n 3, 1) := by decide +kernel
theorem d_N_takeRaised_88 : decode c_N_takeRaised 88 = .ok (.lload 6, 2) := by decide +kernel
theorem d_N_takeRaised_90 : decode c_N_takeRaised 90 = .ok (.iload 4, 2) := by decide +kernel
theorem d_N_takeRaised_92 : decode c_N_takeRaised 92 = .ok (.lshl, 1) := by decide +kernel
theorem d_N_takeRaised_93 : decode c_N_takeRaised 93 = .ok (.ldc2_w 43, 3) := by decide +kernel
theorem d_N_takeRaised_96 : decode c_N_takeRaised 96 = .ok (.land, 1) := by decide +kernel
theorem d_N_takeRaised_97 : decode c_N_takeRaised 97 = .ok (.lastore, 1) := by decide +kernel
theorem d_N_takeRaised_98 : decode c_N_takeRaised 98 = .ok (.iconst 0, 1) := by decide +kernel
theorem d_N_takeRaised_99 : decode c_N_takeRaised 99 = .ok (.istore 8, 2) := by decide +kernel
theorem d_N_takeRaised_101 : decode c_N_takeRaised 101 = .ok (.iload 8, 2) := by decide +kernel
theorem d_N_takeRaised_103 : decode c_N_takeRaised 103 = .ok (.iload_n 3, 1) := by decide +kernel
theorem d_N_takeRaised_104 : decode c_N_takeRaised 104 = .ok (.if_icmp .ge 17, 3) := by decide +kernel
theorem d_N_takeRaised_107 : decode c_N_takeRaised 107 = .ok (.aload_n 0, 1) := by decide +kernel
theorem d_N_takeRaised_108 : decode c_N_takeRaised 108 = .ok (.getfield 9, 3) := by decide +kernel
theorem d_N_takeRaised_111 : decode c_N_takeRaised 111 = .ok (.iload 8, 2) := by decide +kernel
theorem d_N_takeRaised_113 : decode c_N_takeRaised 113 = .ok (.lconst 0, 1) := by decide +kernel
theorem d_N_takeRaised_114 : decode c_N_takeRaised 114 = .ok (.lastore, 1) := by decide +kernel
theorem d_N_takeRaised_115 : decode c_N_takeRaised 115 = .ok (.iinc 8 1, 3) := by decide +kernel
theorem d_N_takeRaised_118 : decode c_N_takeRaised 118 = .ok (.goto (-17), 3) := by decide +kernel
theorem d_N_takeRaised_121 : decode c_N_takeRaised 121 = .ok (.aload_n 0, 1) := by decide +kernel
theorem d_N_takeRaised_122 : decode c_N_takeRaised 122 = .ok (.iload 5, 2) := by decide +kernel
theorem d_N_takeRaised_124 : decode c_N_takeRaised 124 = .ok (.invokevirtual 39, 3) := by decide +kernel
theorem d_N_takeRaised_127 : decode c_N_takeRaised 127 = .ok (.return_, 1) := by decide +kernel
theorem d_N_takeSquare_0 : decode c_N_takeSquare 0 = .ok (.aload_n 0, 1) := by decide +kernel
theorem d_N_takeSquare_1 : decode c_N_takeSquare 1 = .ok (.invokevirtual 48, 3) := by decide +kernel
theorem d_N_takeSquare_4 : decode c_N_takeSquare 4 = .ok (.iconst 0, 1) := by decide +kernel
theorem d_N_takeSquare_5 : decode c_N_takeSquare 5 = .ok (.istore_n 2, 1) := by decide +kernel
theorem d_N_takeSquare_6 : decode c_N_takeSquare 6 = .ok (.iload_n 2, 1) := by decide +kernel
theorem d_N_takeSquare_7 : decode c_N_takeSquare 7 = .ok (.aload_n 1, 1) := by decide +kernel
theorem d_N_takeSquare_8 : decode c_N_takeSquare 8 = .ok (.getfield 15, 3) := by decide +kernel
theorem d_N_takeSquare_11 : decode c_N_takeSquare 11 = .ok (.if_icmp .ge 52, 3) := by decide +kernel
theorem d_N_takeSquare_14 : decode c_N_takeSquare 14 = .ok (.aload_n 0, 1) := by decide +kernel
theorem d_N_takeSquare_15 : decode c_N_takeSquare 15 = .ok (.getfield 9, 3) := by decide +kernel
theorem d_N_takeSquare_18 : decode c_N_takeSquare 18 = .ok (.iconst 2, 1) := by decide +kernel
theorem d_N_takeSquare_19 : decode c_N_takeSquare 19 = .ok (.iload_n 2, 1) := by decide +kernel
theorem d_N_takeSquare_20 : decode c_N_takeSquare 20 = .ok (.imul, 1) := by decide +kernel
theorem d_N_takeSquare_21 : decode c_N_takeSquare 21 = .ok (.dup2, 1) := by decide +kernel
theorem d_N_takeSquare_22 : decode c_N_takeSquare 22 = .ok (.laload, 1) := by decide +kernel
theorem d_N_takeSquare_23 : decode c_N_takeSquare 23 = .ok (.aload_n 1, 1) := by decide +kernel
theorem d_N_takeSquare_24 : decode c_N_takeSquare 24 = .ok (.getfield 9, 3) := by decide +kernel
theorem d_N_takeSquare_27 : decode c_N_takeSquare 27 = .ok (.iload_n 2, 1) := by decide +kernel
theorem d_N_takeSquare_28 : decode c_N_takeSquare 28 = .ok (.laload, 1) := by decide +kernel
theorem d_N_takeSquare_29 : decode c_N_takeSquare 29 = .ok (.aload_n 1, 1) := by decide +kernel
theorem d_N_takeSquare_30 : decode c_N_takeSquare 30 = .ok (.getfield 9, 3) := by decide +kernel
theorem d_N_takeSquare_33 : decode c_N_takeSquare 33 = .ok (.iload_n 2, 1) := by decide +kernel
theorem d_N_takeSquare_34 : decode c_N_takeSquare 34 = .ok (.laload, 1) := by decide +kernel
theorem d_N_takeSquare_35 : decode c_N_takeSquare 35 = .ok (.lmul, 1) := by decide +kernel
theorem d_N_takeSquare_36 : decode c_N_takeSquare 36 = .ok (.ladd, 1) := by decide +kernel
theorem d_N_takeSquare_37 : decode c_N_takeSquare 37 = .ok (.lastore, 1) := by decide +kernel
theorem d_N_takeSquare_38 : decode c_N_takeSquare 38 = .ok (.aload_n 0, 1) := by decide +kernel
theorem d_N_takeSquare_39 : decode c_N_takeSquare 39 = .ok (.aload_n 1, 1) := by decide +kernel
theorem d_N_takeSquare_40 : decode c_N_takeSquare 40 = .ok (.iload_n 2, 1) := by decide +kernel
theorem d_N_takeSquare_41 : decode c_N_takeSquare 41 = .ok (.iconst 1, 1) := by decide +kernel
theorem d_N_takeSquare_42 : decode c_N_takeSquare 42 = .ok (.iadd, 1) := by decide +kernel
theorem d_N_takeSquare_43 : decode c_N_takeSquare 43 = .ok (.iload_n 2, 1) := by decide +kernel
theorem d_N_takeSquare_44 : decode c_N_takeSquare 44 = .ok (.ldc2_w 58, 3) := by decide +kernel
theorem d_N_takeSquare_47 : decode c_N_takeSquare 47 = .ok (.aload_n 1, 1) := by decide +kernel
theorem d_N_takeSquare_48 : decode c_N_takeSquare 48 = .ok (.getfield 9, 3) := by decide +kernel
theorem d_N_takeSquare_51 : decode c_N_takeSquare 51 = .ok (.iload_n 2, 1) := by decide +kernel
theorem d_N_takeSquare_52 : decode c_N_takeSquare 52 = .ok (.laload, 1) := by decide +kernel
theorem d_N_takeSquare_53 : decode c_N_takeSquare 53 = .ok (.lmul, 1) := by decide +kernel
theorem d_N_takeSquare_54 : decode c_N_takeSquare 54 = .ok (.invokevirtual 51, 3) := by decide +kernel
theorem d_N_takeSquare_57 : decode c_N_takeSquare 57 = .ok (.iinc 2 1, 3) := by decide +kernel
theorem d_N_takeSquare_60 : decode c_N_takeSquare 60 = .ok (.goto (-54), 3) := by decide +kernel
theorem d_N_takeSquare_63 : decode c_N_takeSquare 63 = .ok (.aload_n 0, 1) := by decide +kernel
theorem d_N_takeSquare_64 : decode c_N_takeSquare 64 = .ok (.iconst 2, 1) := by decide +kernel
theorem d_N_takeSquare_65 : decode c_N_takeSquare 65 = .ok (.aload_n 1, 1) := by decide +kernel
theorem d_N_takeSquare_66 : decode c_N_takeSquare 66 = .ok (.getfield 15, 3) := by decide +kernel
theorem d_N_takeSquare_69 : decode c_N_takeSquare 69 = .ok (.imul, 1) := by decide +kernel
theorem d_N_takeSquare_70 : decode c_N_takeSquare 70 = .ok (.invokevirtual 55, 3) := by decide +kernel
theorem d_N_takeSquare_73 : decode c_N_takeSquare 73 = .ok (.return_, 1) := by decide +kernel
theorem d_N_takeSum_0 : decode c_N_takeSum 0 = .ok (.aload_n 1, 1) := by decide +kernel
theorem d_N_takeSum_1 : decode c_N_takeSum 1 = .ok (.getfield 15, 3) := by decide +kernel
theorem d_N_takeSum_4 : decode c_N_takeSum 4 = .ok (.aload_n 2, 1) := by decide +kernel
theorem d_N_takeSum_5 : decode c_N_takeSum 5 = .ok (.getfield 15, 3) := by decide +kernel
theorem d_N_takeSum_8 : decode c_N_takeSum 8 = .ok (.invokestatic 45, 3) := by decide +kernel
theorem d_N_takeSum_11 : decode c_N_takeSum 11 = .ok (.istore_n 3, 1) := by decide +kernel
theorem d_N_takeSum_12 : decode c_N_takeSum 12 = .ok (.lconst 0, 1) := by decide +kernel
theorem d_N_takeSum_13 : decode c_N_takeSum 13 = .ok (.lstore 4, 2) := by decide +kernel
theorem d_N_takeSum_15 : decode c_N_takeSum 15 = .ok (.iconst 0, 1) := by decide +kernel
theorem d_N_takeSum_16 : decode c_N_takeSum 16 = .ok (.istore 6, 2) := by decide +kernel
theorem d_N_takeSum_18 : decode c_N_takeSum 18 = .ok (.iload 6, 2) := by decide +kernel
theorem d_N_takeSum_20 : decode c_N_takeSum 20 = .ok (.iload_n 3, 1) := by decide +kernel
theorem d_N_takeSum_21 : decode c_N_takeSum 21 = .ok (.if_icmp .ge 49, 3) := by decide +kernel
theorem d_N_takeSum_24 : decode c_N_takeSum 24 = .ok (.lload 4, 2) := by decide +kernel
theorem d_N_takeSum_26 : decode c_N_takeSum 26 = .ok (.aload_n 1, 1) := by decide +kernel
theorem d_N_takeSum_27 : decode c_N_takeSum 27 = .ok (.getfield 9, 3) := by decide +kernel
theorem d_N_takeSum_30 : decode c_N_takeSum 30 = .ok (.iload 6, 2) := by decide +kernel
theorem d_N_takeSum_32 : decode c_N_takeSum 32 = .ok (.laload, 1) := by decide +kernel
theorem d_N_takeSum_33 : decode c_N_takeSum 33 = .ok (.aload_n 2, 1) := by decide +kernel
theorem d_N_takeSum_34 : decode c_N_takeSum 34 = .ok (.getfield 9, 3) := by decide +kernel
theorem d_N_takeSum_37 : decode c_N_takeSum 37 = .ok (.iload 6, 2) := by decide +kernel
theorem d_N_takeSum_39 : decode c_N_takeSum 39 = .ok (.laload, 1) := by decide +kernel
theorem d_N_takeSum_40 : decode c_N_takeSum 40 = .ok (.ladd, 1) := by decide +kernel
theorem d_N_takeSum_41 : decode c_N_takeSum 41 = .ok (.ladd, 1) := by decide +kernel
theorem d_N_takeSum_42 : decode c_N_takeSum 42 = .ok (.lstore 4, 2) := by decide +kernel
theorem d_N_takeSum_44 : decode c_N_takeSum 44 = .ok (.aload_n 0, 1) := by decide +kernel
theorem d_N_takeSum_45 : decode c_N_takeSum 45 = .ok (.getfield 9, 3) := by decide +kernel
theorem d_N_takeSum_48 : decode c_N_takeSum 48 = .ok (.iload 6, 2) := by decide +kernel
theorem d_N_takeSum_50 : decode c_N_takeSum 50 = .ok (.lload 4, 2) := by decide +kernel
theorem d_N_takeSum_52 : decode c_N_takeSum 52 = .ok (.ldc2_w 43, 3) := by decide +kernel
theorem d_N_takeSum_55 : decode c_N_takeSum 55 = .ok (.land, 1) := by decide +kernel
theorem d_N_takeSum_56 : decode c_N_takeSum 56 = .ok (.lastore, 1) := by decide +kernel
theorem d_N_takeSum_57 : decode c_N_takeSum 57 = .ok (.lload 4, 2) := by decide +kernel
theorem d_N_takeSum_59 : decode c_N_takeSum 59 = .ok (.bipush 28, 2) := by decide +kernel
theorem d_N_takeSum_61 : decode c_N_takeSum 61 = .ok (.lshr, 1) := by decide +kernel
theorem d_N_takeSum_62 : decode c_N_takeSum 62 = .ok (.lstore 4, 2) := by decide +kernel
theorem d_N_takeSum_64 : decode c_N_takeSum 64 = .ok (.iinc 6 1, 3) := by decide +kernel
theorem d_N_takeSum_67 : decode c_N_takeSum 67 = .ok (.goto (-49), 3) := by decide +kernel
theorem d_N_takeSum_70 : decode c_N_takeSum 70 = .ok (.aload_n 0, 1) := by decide +kernel
theorem d_N_takeSum_71 : decode c_N_takeSum 71 = .ok (.getfield 9, 3) := by decide +kernel
theorem d_N_takeSum_74 : decode c_N_takeSum 74 = .ok (.iload_n 3, 1) := by decide +kernel
theorem d_N_takeSum_75 : decode c_N_takeSum 75 = .ok (.lload 4, 2) := by decide +kernel
theorem d_N_takeSum_77 : decode c_N_takeSum 77 = .ok (.lastore, 1) := by decide +kernel
theorem d_N_takeSum_78 : decode c_N_takeSum 78 = .ok (.aload_n 0, 1) := by decide +kernel
theorem d_N_takeSum_79 : decode c_N_takeSum 79 = .ok (.iload_n 3, 1) := by decide +kernel
theorem d_N_takeSum_80 : decode c_N_takeSum 80 = .ok (.iconst 1, 1) := by decide +kernel
theorem d_N_takeSum_81 : decode c_N_takeSum 81 = .ok (.iadd, 1) := by decide +kernel
theorem d_N_takeSum_82 : decode c_N_takeSum 82 = .ok (.invokevirtual 39, 3) := by decide +kernel
theorem d_N_takeSum_85 : decode c_N_takeSum 85 = .ok (.return_, 1) := by decide +kernel
theorem d_N_takeUnsigned_0 : decode c_N_takeUnsigned 0 = .ok (.aload_n 0, 1) := by decide +kernel
theorem d_N_takeUnsigned_1 : decode c_N_takeUnsigned 1 = .ok (.getfield 9, 3) := by decide +kernel
theorem d_N_takeUnsigned_4 : decode c_N_takeUnsigned 4 = .ok (.iconst 0, 1) := by decide +kernel
theorem d_N_takeUnsigned_5 : decode c_N_takeUnsigned 5 = .ok (.lload_n 1, 1) := by decide +kernel
theorem d_N_takeUnsigned_6 : decode c_N_takeUnsigned 6 = .ok (.ldc2_w 43, 3) := by decide +kernel
theorem d_N_takeUnsigned_9 : decode c_N_takeUnsigned 9 = .ok (.land, 1) := by decide +kernel
theorem d_N_takeUnsigned_10 : decode c_N_takeUnsigned 10 = .ok (.lastore, 1) := by decide +kernel
theorem d_N_takeUnsigned_11 : decode c_N_takeUnsigned 11 = .ok (.aload_n 0, 1) := by decide +kernel
theorem d_N_takeUnsigned_12 : decode c_N_takeUnsigned 12 = .ok (.getfield 9, 3) := by decide +kernel
theorem d_N_takeUnsigned_15 : decode c_N_takeUnsigned 15 = .ok (.iconst 1, 1) := by decide +kernel
theorem d_N_takeUnsigned_16 : decode c_N_takeUnsigned 16 = .ok (.lload_n 1, 1) := by decide +kernel
theorem d_N_takeUnsigned_17 : decode c_N_takeUnsigned 17 = .ok (.bipush 28, 2) := by decide +kernel
theorem d_N_takeUnsigned_19 : decode c_N_takeUnsigned 19 = .ok (.lushr, 1) := by decide +kernel
theorem d_N_takeUnsigned_20 : decode c_N_takeUnsigned 20 = .ok (.ldc2_w 43, 3) := by decide +kernel
theorem d_N_takeUnsigned_23 : decode c_N_takeUnsigned 23 = .ok (.land, 1) := by decide +kernel
theorem d_N_takeUnsigned_24 : decode c_N_takeUnsigned 24 = .ok (.lastore, 1) := by decide +kernel
theorem d_N_takeUnsigned_25 : decode c_N_takeUnsigned 25 = .ok (.aload_n 0, 1) := by decide +kernel
theorem d_N_takeUnsigned_26 : decode c_N_takeUnsigned 26 = .ok (.getfield 9, 3) := by decide +kernel
theorem d_N_takeUnsigned_29 : decode c_N_takeUnsigned 29 = .ok (.iconst 2, 1) := by decide +kernel
theorem d_N_takeUnsigned_30 : decode c_N_takeUnsigned 30 = .ok (.lload_n 1, 1) := by decide +kernel
theorem d_N_takeUnsigned_31 : decode c_N_takeUnsigned 31 = .ok (.bipush 56, 2) := by decide +kernel
theorem d_N_takeUnsigned_33 : decode c_N_takeUnsigned 33 = .ok (.lushr, 1) := by decide +kernel
theorem d_N_takeUnsigned_34 : decode c_N_takeUnsigned 34 = .ok (.lastore, 1) := by decide +kernel
theorem d_N_takeUnsigned_35 : decode c_N_takeUnsigned 35 = .ok (.aload_n 0, 1) := by decide +kernel
theorem d_N_takeUnsigned_36 : decode c_N_takeUnsigned 36 = .ok (.iconst 3, 1) := by decide +kernel
theorem d_N_takeUnsigned_37 : decode c_N_takeUnsigned 37 = .ok (.invokevirtual 39, 3) := by decide +kernel
theorem d_N_takeUnsigned_40 : decode c_N_takeUnsigned 40 = .ok (.return_, 1) := by decide +kernel
end
section
/-! Natural: the canonical row of a number; contracts -/
theorem arrV_cong {cI : ClassId} {N : Nat} {f g : Nat → Value} (h : ∀ j, j < N → f j = g j) : arrV cI N f = arrV cI N g := by
  unfold arrV
  congr 1
  apply Array.ext_getElem?
  intro j
  by_cases hj : j < N
  · simp [hj, h j hj]
  · simp [hj]
theorem wH.canon {T : wT} {F : wFt} {U K : wUt} {I : wIt} {O : wOt} {A : Nat → Prop} {s : State} {H0 H : Heap} {locs : List Loc} {x : Nat} {f g : Nat → Int64} (hx : x < 34) (hw : wH T (va_up F x f) U K I O A s H0 H locs) (h : ∀ j, j < 75 → f j = g j) : wH T (va_up F x g) U K I O A s H0 H locs := by
  refine ⟨fun k q hq => ?_, hw.2⟩
  obtain ⟨hk, rfl⟩ := wl_inv hq
  have h1 := hw.1 k _ (wl_at hk)
  by_cases e : k = 34 + x
  · subst e
    rw [we_limbs hx, va_up_self] at h1 ⊢
    have h2 : H[wa T (34 + x)]? = some (vp_cell (T.2.2.2 0) (75, .inr (.inl f))) := h1
    show H[wa T (34 + x)]? = some (vp_cell (T.2.2.2 0) (75, .inr (.inl g)))
    rw [h2, vp_cell_l, vp_cell_l, arrV_cong (fun j hj => by rw [h j hj])]
  · have h3 : wE T (va_up F x g) U K I O k = wE T (va_up F x f) U K I O k := wE_cong (fun _ => rfl) (fun _ _ => by rw [va_up_ne _ _ (by omega), va_up_ne _ _ (by omega)]) (fun _ _ => rfl) (fun _ => rfl) (fun _ => rfl) (fun _ => rfl) (fun _ => ⟨rfl, rfl⟩) (fun _ => rfl) (fun _ => rfl) (fun _ => rfl) (fun _ => rfl) (fun _ => rfl)
    rw [h3]; exact h1
theorem nv_close {f : Nat → Int64} {q v : Nat} (hq : q ≤ 75) (hd : ∀ j, j < q → 0 ≤ nd f j ∧ nd f j < b28) (hz : ∀ j, q ≤ j → j < 75 → f j = 0) (ht : 0 < q → f (q - 1) ≠ 0) (hv : lm_ev b28 (nd f) q = (v : Int)) : v < vLim ∧ kD v = q ∧ (∀ j, j < 75 → f j = fD v j) := by
  have h1 : v < vB ^ q := fD_lt hd hv
  have hl : v < vLim := Nat.lt_of_lt_of_le h1 (vB_le hq)
  have h2 : kD v = q := by
    refine kD_eq h1 (fun hp => ?_) hq
    obtain ⟨r, rfl⟩ : ∃ r, q = r + 1 := ⟨q - 1, by omega⟩
    have h3 : nd f r ≠ 0 := fun h => ht hp (lj_inj (by rw [lj_0]; exact h))
    have h4 := hd r (by omega)
    have h5 := lm_top b28_pos (f := nd f) (n := r) (fun j hj => (hd j (by omega)).1) (by omega)
    rw [hv, ← vB_c, ← Int.natCast_pow] at h5
    exact Int.ofNat_le.mp h5
  refine ⟨hl, h2, fun j hj => ?_⟩
  by_cases e : j < q
  · exact fD_uniq hd hv e
  · rw [hz j (by omega) hj, fD_zero hl (by omega)]
theorem va_upx {α : Type} (f : Nat → α) (x : Nat) : va_up f x (f x) = f := funext fun j => by
  by_cases h : j = x
  · rw [h, va_up_self]
  · rw [va_up_ne _ _ h]

set_option maxRecDepth 100000 in
set_option maxHeartbeats 4000000 in
theorem k_N_settle (l : Launch) (T : wT) (F : wFt) (U K : wUt) (I : wIt) (O : wOt) (x k0 en v : Nat) (hi : x < 34) (hU : U x = nI k0) (hk : k0 ≤ 75) (he : en ≤ 75) (hd : ∀ j, j < en → 0 ≤ nd (F x) j ∧ nd (F x) j < b28) (hz : ∀ j, en ≤ j → k0 ≤ j → j < 75 → F x j = 0) (hv : lm_ev b28 (nd (F x)) en = (v : Int)) : Met l y_N_settle (.code y_N_settle c_N_settle 3 none :: bg) ({ frames := 0, cells := 0, slots := 0, locals := 0 } : Room) (mP T F U K I O [.ref (wa T x), .int (nI en)]) (mQv T (va_up F x (fD v)) (va_up U x (uD v)) K I O) 0 0 (wA T) := by
  refine wM_v (by decide) (Nat.le_of_ble_eq_true rfl) ?_
  intro p e R s m args below meth c Q ls hx hb hC hRf hRl hret hl hw
  have hRf : 0 ≤ R.frames := hRf
  have hRl : 0 ≤ R.locals := hRl
  have hl : lv_has ls 3 [(0, .ref (wa T x)), (1, .int (nI en))] := hl
  refine lv_iload_n hx hb d_N_settle_0 rfl (lv_at hl 1 rfl) ?_
  refine lv_istore_n hx hb d_N_settle_1 rfl hl (by decide) rfl (fun ls hl => ?_)
  have hl : lv_has ls 3 [(2, .int (nI en)), (0, .ref (wa T x)), (1, .int (nI en))] := hl
  rw [← va_upx F x] at hw
  have lp1 : ∀ (n i : Nat) (f : Nat → Int64) (ls : Array Slot) (H : Heap) (locs : List Loc), k0 - i = n → en ≤ i → i ≤ 75 → (∀ j, j < en → f j = F x j) → (∀ j, en ≤ j → (j < i ∨ k0 ≤ j) → j < 75 → f j = 0) → lv_has ls 3 [(2, .int (nI i)), (0, .ref (wa T x)), (1, .int (nI en))] → wH T (va_up F x f) U K I O (wA T) s s.heap H locs → W p l e R s m args below meth c H locs 0 0 Q (F0 m 2 ls []) := by
    intro n
    induction n with
    | zero =>
      intro i f ls H locs hn hei hi75 h1 h2 hl hw
      refine lv_iload_n hx hb d_N_settle_2 rfl (lv_at hl 0 rfl) ?_
      refine lv_aload_n hx hb d_N_settle_3 rfl (lv_at hl 1 rfl) ?_
      refine wg_Natural_used hx hb hC hw (by omega) bw_45 d_N_settle_4 ?_
      refine sw_i (y := nI k0) (hU) ?_
      refine n_icmp_ge (tgt := 23) hx hb d_N_settle_7 (by decide) (by omega) (by omega) (fun h => ?_) (fun h => ?_)
      · have hz2 : ∀ j, en ≤ j → j < 75 → f j = 0 := fun j a b => h2 j a (by omega) b
        refine lv_aload_n hx hb d_N_settle_23 rfl (lv_at hl 1 rfl) ?_
        refine lv_iload_n hx hb d_N_settle_24 rfl (lv_at hl 2 rfl) ?_
        refine wp_Natural_used hx hb hC hw (by omega) bw_45 d_N_settle_25 (fun H locs hw => ?_)
        have hw : wH T (va_up F x f) (va_up U x (nI en)) K I O (wA T) s s.heap H locs := hw
        have hd2 : ∀ j, j < en → 0 ≤ nd f j ∧ nd f j < b28 := fun j hj => by have := hd j hj; unfold nd at *; rw [h1 j hj]; exact this
        have hv2 : lm_ev b28 (nd f) en = (v : Int) := by rw [← hv]; exact lm_congr (fun j hj => by unfold nd; rw [h1 j hj])
        have lp2 : ∀ (q : Nat) (ls : Array Slot) (H : Heap) (locs : List Loc), q ≤ en → (∀ j, q ≤ j → j < 75 → f j = 0) → lm_ev b28 (nd f) q = (v : Int) → lv_has ls 3 [(2, .int (nI i)), (0, .ref (wa T x)), (1, .int (nI en))] → wH T (va_up F x f) (va_up U x (nI q)) K I O (wA T) s s.heap H locs → W p l e R s m args below meth c H locs 0 0 Q (F0 m 28 ls []) := by
          intro q
          induction q with
          | zero =>
            intro ls H locs hq hz3 hv3 hl hw
            refine lv_aload_n hx hb d_N_settle_28 rfl (lv_at hl 1 rfl) ?_
            refine wg_Natural_used hx hb hC hw (by omega) bw_45 d_N_settle_29 ?_
            refine sw_i (y := nI 0) (by rw [va_up_self]) ?_
            refine n_if_le (tgt := 64) hx hb d_N_settle_32 (by decide) (by omega) (fun h9 => ?_) (fun h9 => ?_)
            · obtain ⟨_, c2, c3⟩ := nv_close (f := f) (q := 0) (by omega) (fun j hj => hd2 j (by omega)) hz3 (fun h => absurd h (by omega)) hv3
              have hw := wH.canon (by omega) hw c3
              unfold uD at hret; rw [c2] at hret
              exact hret _ _ _ _ hw d_N_settle_64
            · exact absurd h9 (by omega)
          | succ q ih =>
            intro ls H locs hq hz3 hv3 hl hw
            refine lv_aload_n hx hb d_N_settle_28 rfl (lv_at hl 1 rfl) ?_
            refine wg_Natural_used hx hb hC hw (by omega) bw_45 d_N_settle_29 ?_
            refine sw_i (y := nI (q + 1)) (by rw [va_up_self]) ?_
            refine n_if_le (tgt := 64) hx hb d_N_settle_32 (by decide) (by omega) (fun h9 => ?_) (fun h9 => ?_)
            · exact absurd h9 (by omega)
            · refine lv_aload_n hx hb d_N_settle_35 rfl (lv_at hl 1 rfl) ?_
              refine wg_Natural_limbs hx hb hC hw (by omega) bw_43 d_N_settle_36 ?_
              refine lv_aload_n hx hb d_N_settle_39 rfl (lv_at hl 1 rfl) ?_
              refine wg_Natural_used hx hb hC hw (by omega) bw_45 d_N_settle_40 ?_
              refine sw_i (y := nI (q + 1)) (by rw [va_up_self]) ?_
              refine lv_iconst (v := nI 1) hx hb d_N_settle_43 (by decide +kernel) ?_
              refine n_isub hx hb d_N_settle_44 (by omega) ?_
              refine wl_limbs hx hb hw (by omega) (by omega) d_N_settle_45 ?_
              refine lv_lconst (v := 0) hx hb d_N_settle_46 (by decide +kernel) ?_
              refine lc_ne (tgt := 64) hx hb d_N_settle_47 d_N_settle_48 (by decide) (fun h8 => ?_) (fun h8 => ?_)
              · rw [va_up_self, show q + 1 - 1 = q from rfl, lj_0] at h8
                obtain ⟨_, c2, c3⟩ := nv_close (f := f) (q := q + 1) (by omega) (fun j hj => hd2 j (by omega)) hz3 (fun _ h => h8 (by rw [show q + 1 - 1 = q from rfl] at h; rw [h]; exact lj_0)) hv3
                have hw := wH.canon (by omega) hw c3
                unfold uD at hret; rw [c2] at hret
                exact hret _ _ _ _ hw d_N_settle_64
              · rw [va_up_self, show q + 1 - 1 = q from rfl, lj_0] at h8
                refine lv_aload_n hx hb d_N_settle_51 rfl (lv_at hl 1 rfl) ?_
                refine lv_dup hx hb d_N_settle_52 rfl ?_
                refine wg_Natural_used hx hb hC hw (by omega) bw_45 d_N_settle_53 ?_
                refine sw_i (y := nI (q + 1)) (by rw [va_up_self]) ?_
                refine lv_iconst (v := nI 1) hx hb d_N_settle_56 (by decide +kernel) ?_
                refine n_isub hx hb d_N_settle_57 (by omega) ?_
                refine wp_Natural_used hx hb hC hw (by omega) bw_45 d_N_settle_58 (fun H locs hw => ?_)
                refine lv_goto (tgt := 28) hx hb d_N_settle_61 (by decide) ?_
                rw [bx_uu] at hw
                have hf0 : f q = 0 := lj_inj (by rw [h8, lj_0])
                refine ih ls H locs (by omega) (fun j a b => ?_) ?_ hl hw
                · by_cases ej : j = q
                  · rw [ej]; exact hf0
                  · exact hz3 j (by omega) b
                · rw [← hv3, lm_evs, nd_0 hf0]; omega
        exact lp2 en ls H locs (Nat.le_refl en) hz2 hv2 hl hw
      · exact absurd h (by omega)
    | succ n ih =>
      intro i f ls H locs hn hei hi75 h1 h2 hl hw
      refine lv_iload_n hx hb d_N_settle_2 rfl (lv_at hl 0 rfl) ?_
      refine lv_aload_n hx hb d_N_settle_3 rfl (lv_at hl 1 rfl) ?_
      refine wg_Natural_used hx hb hC hw (by omega) bw_45 d_N_settle_4 ?_
      refine sw_i (y := nI k0) (hU) ?_
      refine n_icmp_ge (tgt := 23) hx hb d_N_settle_7 (by decide) (by omega) (by omega) (fun h => ?_) (fun h => ?_)
      · exact absurd h (by omega)
      · refine lv_aload_n hx hb d_N_settle_10 rfl (lv_at hl 1 rfl) ?_
        refine wg_Natural_limbs hx hb hC hw (by omega) bw_43 d_N_settle_11 ?_
        refine lv_iload_n hx hb d_N_settle_14 rfl (lv_at hl 0 rfl) ?_
        refine lv_lconst (v := 0) hx hb d_N_settle_15 (by decide +kernel) ?_
        refine ws_limbs hx hb hw (by omega) (by omega) d_N_settle_16 (fun H locs hw => ?_)
        refine lv_iinc (v := nI (i + 1)) hx hb d_N_settle_17 hl (k := 0) rfl (nI_add _ 1) (by decide) rfl (fun ls hl => ?_)
        have hl : lv_has ls 3 [(2, .int (nI (i + 1))), (0, .ref (wa T x)), (1, .int (nI en))] := hl
        refine lv_goto (tgt := 2) hx hb d_N_settle_20 (by decide) ?_
        rw [bx_uu, va_up_self] at hw
        refine ih (i + 1) _ ls H locs (by omega) (by omega) (by omega) (fun j hj => ?_) (fun j a1 a2 a3 => ?_) hl hw
        · rw [pk_uLn (by omega)]; exact h1 j hj
        · by_cases ej : j = i
          · rw [ej, pk_uLs]
          · rw [pk_uLn ej]; exact h2 j a1 (by omega) a3
  exact lp1 (k0 - en) en (F x) ls _ _ rfl (Nat.le_refl en) he (fun _ _ => rfl) (fun j a1 a2 a3 => hz j a1 (by omega) a3) hl hw
end
section
/-! Natural: contracts over the numbers -/
def fF (V : Nat → Nat) : wFt := fun n => fD (V n)
def fU (V : Nat → Nat) : wUt := fun n => uD (V n)
theorem fF_up (V : Nat → Nat) (x v : Nat) : va_up (fF V) x (fD v) = fF (va_up V x v) := funext fun j => by
  by_cases h : j = x
  · rw [h, va_up_self]; unfold fF; rw [va_up_self]
  · rw [va_up_ne _ _ h]; unfold fF; rw [va_up_ne _ _ h]
theorem fU_up (V : Nat → Nat) (x v : Nat) : va_up (fU V) x (uD v) = fU (va_up V x v) := funext fun j => by
  by_cases h : j = x
  · rw [h, va_up_self]; unfold fU; rw [va_up_self]
  · rw [va_up_ne _ _ h]; unfold fU; rw [va_up_ne _ _ h]
theorem zN (b : Prop) [Decidable b] : narrow .boolean (.int (if b then (1 : Int32) else 0)) = .int (if b then 1 else 0) := by split <;> rfl
theorem kD0 {v : Nat} (h : v < vLim) (hk : kD v = 0) : v = 0 := by
  have := kD_lt h
  rw [hk] at this
  simpa using this
theorem kDp {v : Nat} (hk : 0 < kD v) : v ≠ 0 := by
  have h1 := kD_ge hk
  have h2 : 0 < vB ^ (kD v - 1) := Nat.pow_pos vB_pos
  omega
theorem kD_less {a b : Nat} (ha : a < vLim) (h : kD a < kD b) : a < b := by
  have h1 := kD_lt ha
  have h2 := kD_ge (v := b) (by omega)
  have h3 := vB_le (show kD a ≤ kD b - 1 by omega)
  omega
theorem fD_evI {v : Nat} (h : v < vLim) : lm_ev b28 (nd (fD v)) (kD v) = (v : Int) := fD_ev_k h (Nat.le_refl _)
theorem i32_m1 (a : Int32) : a + Int32.ofInt (-1) = a - 1 := by rw [Int32.sub_eq_add_neg]; rfl

set_option maxRecDepth 100000 in
set_option maxHeartbeats 4000000 in
theorem k_N_isZero (l : Launch) (T : wT) (V : Nat → Nat) (K : wUt) (I : wIt) (O : wOt) (x : Nat) (hi : x < 34) (hV : ∀ n, n < 34 → V n < vLim) : Met l y_N_isZero (.code y_N_isZero c_N_isZero 1 (some .boolean) :: bg) ({ frames := 0, cells := 0, slots := 0, locals := 0 } : Room) (mP T (fF V) (fU V) K I O [.ref (wa T x)]) (mQi T (if V x = 0 then (1 : Int32) else 0) (fF V) (fU V) K I O) 0 0 (wA T) := by
  refine wM_z (by decide) (Nat.le_of_ble_eq_true rfl) (zN _) ?_
  intro p e R s m args below meth c Q ls hx hb hC hRf hRl hret hl hw
  have hRf : 0 ≤ R.frames := hRf
  have hRl : 0 ≤ R.locals := hRl
  have hl : lv_has ls 1 [(0, .ref (wa T x))] := hl
  have h1 := kD_le (V x)
  refine lv_aload_n hx hb d_N_isZero_0 rfl (lv_at hl 0 rfl) ?_
  refine wg_Natural_used hx hb hC hw (by omega) bw_45 d_N_isZero_1 ?_
  refine sw_i (y := nI (kD (V x))) (rfl) ?_
  refine n_if_ne (tgt := 11) hx hb d_N_isZero_4 (by decide) (by omega) (fun h => ?_) (fun h => ?_)
  · refine lv_iconst (v := nI 0) hx hb d_N_isZero_11 (by decide +kernel) ?_
    refine sw_i (y := (if V x = 0 then (1 : Int32) else 0)) (by rw [if_neg (kDp h)]; rfl) ?_
    exact hret _ _ _ _ hw d_N_isZero_12
  · refine lv_iconst (v := nI 1) hx hb d_N_isZero_7 (by decide +kernel) ?_
    refine lv_goto (tgt := 12) hx hb d_N_isZero_8 (by decide) ?_
    refine sw_i (y := (if V x = 0 then (1 : Int32) else 0)) (by rw [if_pos (kD0 (hV x hi) h)]; rfl) ?_
    exact hret _ _ _ _ hw d_N_isZero_12
set_option maxRecDepth 100000 in
set_option maxHeartbeats 4000000 in
theorem k_N_at (l : Launch) (T : wT) (F : wFt) (U K : wUt) (I : wIt) (O : wOt) (x j k : Nat) (hi : x < 34) (hU : U x = nI k) (hk : k ≤ 75) (hj : j < 2147483648) : Met l y_N_at (.code y_N_at c_N_at 2 (some .long) :: bg) ({ frames := 0, cells := 0, slots := 0, locals := 0 } : Room) (mP T F U K I O [.ref (wa T x), .int (nI j)]) (mQl T (if j < k then F x j else 0) F U K I O) 0 0 (wA T) := by
  refine wM_l (by decide) (Nat.le_of_ble_eq_true rfl) ?_
  intro p e R s m args below meth c Q ls hx hb hC hRf hRl hret hl hw
  have hRf : 0 ≤ R.frames := hRf
  have hRl : 0 ≤ R.locals := hRl
  have hl : lv_has ls 2 [(0, .ref (wa T x)), (1, .int (nI j))] := hl
  refine lv_iload_n hx hb d_N_at_0 rfl (lv_at hl 1 rfl) ?_
  refine n_if_lt hx hb d_N_at_1 (by decide) (by omega) ?_
  refine lv_iload_n hx hb d_N_at_4 rfl (lv_at hl 1 rfl) ?_
  refine lv_aload_n hx hb d_N_at_5 rfl (lv_at hl 0 rfl) ?_
  refine wg_Natural_used hx hb hC hw (by omega) bw_45 d_N_at_6 ?_
  refine sw_i (y := nI k) (hU) ?_
  refine n_icmp_ge (tgt := 21) hx hb d_N_at_9 (by decide) (by omega) (by omega) (fun h => ?_) (fun h => ?_)
  · refine lv_lconst (v := 0) hx hb d_N_at_21 (by decide +kernel) ?_
    refine sw_l (y := (if j < k then F x j else 0)) (by rw [if_neg (by omega)]) ?_
    exact hret _ _ _ _ hw d_N_at_22
  · refine lv_aload_n hx hb d_N_at_12 rfl (lv_at hl 0 rfl) ?_
    refine wg_Natural_limbs hx hb hC hw (by omega) bw_43 d_N_at_13 ?_
    refine lv_iload_n hx hb d_N_at_16 rfl (lv_at hl 1 rfl) ?_
    refine wl_limbs hx hb hw (by omega) (by omega) d_N_at_17 ?_
    refine lv_goto (tgt := 22) hx hb d_N_at_18 (by decide) ?_
    refine sw_l (y := (if j < k then F x j else 0)) (by rw [if_pos h]) ?_
    exact hret _ _ _ _ hw d_N_at_22
set_option maxRecDepth 100000 in
set_option maxHeartbeats 4000000 in
theorem k_N_atN (l : Launch) (T : wT) (F : wFt) (U K : wUt) (I : wIt) (O : wOt) (x : Nat) (j : Int32) (hi : x < 34) (hj : j < 0) : Met l y_N_at (.code y_N_at c_N_at 2 (some .long) :: bg) ({ frames := 0, cells := 0, slots := 0, locals := 0 } : Room) (mP T F U K I O [.ref (wa T x), .int j]) (mQl T (0 : Int64) F U K I O) 0 0 (wA T) := by
  refine wM_l (by decide) (Nat.le_of_ble_eq_true rfl) ?_
  intro p e R s m args below meth c Q ls hx hb hC hRf hRl hret hl hw
  have hRf : 0 ≤ R.frames := hRf
  have hRl : 0 ≤ R.locals := hRl
  have hl : lv_has ls 2 [(0, .ref (wa T x)), (1, .int j)] := hl
  refine lv_iload_n hx hb d_N_at_0 rfl (lv_at hl 1 rfl) ?_
  refine lv_if_lt (tgt := 21) hx hb d_N_at_1 (by decide) (fun h => ?_) (fun h => ?_)
  · refine lv_lconst (v := 0) hx hb d_N_at_21 (by decide +kernel) ?_
    exact hret _ _ _ _ hw d_N_at_22
  · exact absurd hj h
set_option maxRecDepth 100000 in
set_option maxHeartbeats 4000000 in
theorem k_N_clear (l : Launch) (T : wT) (V : Nat → Nat) (K : wUt) (I : wIt) (O : wOt) (x : Nat) (hi : x < 34) (hV : ∀ n, n < 34 → V n < vLim) : Met l y_N_clear (.code y_N_clear c_N_clear 1 none :: bg) ({ frames := 1, cells := 0, slots := 0, locals := 22 } : Room) (mP T (fF V) (fU V) K I O [.ref (wa T x)]) (mQv T (fF (va_up V x 0)) (fU (va_up V x 0)) K I O) 0 0 (wA T) := by
  refine wM_v (by decide) (Nat.le_of_ble_eq_true rfl) ?_
  intro p e R s m args below meth c Q ls hx hb hC hRf hRl hret hl hw
  have hRf : 1 ≤ R.frames := hRf
  have hRl : 22 ≤ R.locals := hRl
  have hl : lv_has ls 1 [(0, .ref (wa T x))] := hl
  refine lv_aload_n hx hb d_N_clear_0 rfl (lv_at hl 0 rfl) ?_
  refine lv_iconst (v := nI 0) hx hb d_N_clear_1 (by decide +kernel) ?_
  refine wcV_v (As := [.int (nI 0)]) hx hb hC hw (k_N_settle l T (fF V) (fU V) K I O x (kD (V x)) 0 0 hi rfl (kD_le _) (by omega) (fun j h => absurd h (by omega)) (fun j _ a b => fD_zero (hV x hi) a) rfl) lk_N_39 rfl rfl ⟨by show 0 + 1 ≤ R.frames; omega, by show 8 + (3 + 11) + 0 ≤ R.locals; omega⟩ (by omega) (we_Natural (by omega)) rfl rfl hl.1 rfl (Nat.le_of_ble_eq_true rfl) ⟨Nat.zero_le _, Nat.zero_le _⟩ d_N_clear_2 (fun H locs hw => ?_)
  rw [fF_up, fU_up] at hw
  exact hret _ _ _ _ hw d_N_clear_5
set_option maxRecDepth 100000 in
set_option maxHeartbeats 4000000 in
theorem k_N_take (l : Launch) (T : wT) (V : Nat → Nat) (K : wUt) (I : wIt) (O : wOt) (x a : Nat) (hi : x < 34) (ha : a < 34) (hV : ∀ n, n < 34 → V n < vLim) : Met l y_N_take (.code y_N_take c_N_take 4 none :: bg) ({ frames := 1, cells := 0, slots := 0, locals := 22 } : Room) (mP T (fF V) (fU V) K I O [.ref (wa T x), .ref (wa T a)]) (mQv T (fF (va_up V x (V a))) (fU (va_up V x (V a))) K I O) 0 0 (wA T) := by
  refine wM_v (by decide) (Nat.le_of_ble_eq_true rfl) ?_
  intro p e R s m args below meth c Q ls hx hb hC hRf hRl hret hl hw
  have hRf : 1 ≤ R.frames := hRf
  have hRl : 22 ≤ R.locals := hRl
  have hl : lv_has ls 4 [(0, .ref (wa T x)), (1, .ref (wa T a))] := hl
  have h9 := kD_le (V a)
  refine lv_aload_n hx hb d_N_take_0 rfl (lv_at hl 1 rfl) ?_
  refine wg_Natural_used hx hb hC hw (by omega) bw_45 d_N_take_1 ?_
  refine sw_i (y := nI (kD (V a))) (rfl) ?_
  refine lv_istore_n hx hb d_N_take_4 rfl hl (by decide) rfl (fun ls hl => ?_)
  have hl : lv_has ls 4 [(2, .int (nI (kD (V a)))), (0, .ref (wa T x)), (1, .ref (wa T a))] := hl
  refine lv_iconst (v := nI 0) hx hb d_N_take_5 (by decide +kernel) ?_
  refine lv_istore_n hx hb d_N_take_6 rfl hl (by decide) rfl (fun ls hl => ?_)
  have hl : lv_has ls 4 [(3, .int (nI 0)), (2, .int (nI (kD (V a)))), (0, .ref (wa T x)), (1, .ref (wa T a))] := hl
  rw [← va_upx (fF V) x] at hw
  have lp : ∀ (n i : Nat) (f : Nat → Int64) (ls : Array Slot) (H : Heap) (locs : List Loc), kD (V a) - i = n → i ≤ kD (V a) → (∀ j, j < i → f j = fD (V a) j) → (∀ j, i ≤ j → f j = fD (V x) j) → lv_has ls 4 [(3, .int (nI i)), (2, .int (nI (kD (V a)))), (0, .ref (wa T x)), (1, .ref (wa T a))] → wH T (va_up (fF V) x f) (fU V) K I O (wA T) s s.heap H locs → W p l e R s m args below meth c H locs 0 0 Q (F0 m 7 ls []) := by
    intro n
    induction n with
    | zero =>
      intro i f ls H locs hn hi2 h1 h2 hl hw
      refine lv_iload_n hx hb d_N_take_7 rfl (lv_at hl 0 rfl) ?_
      refine lv_iload_n hx hb d_N_take_8 rfl (lv_at hl 1 rfl) ?_
      refine n_icmp_ge (tgt := 30) hx hb d_N_take_9 (by decide) (by omega) (by omega) (fun h => ?_) (fun h => ?_)
      · refine lv_aload_n hx hb d_N_take_30 rfl (lv_at hl 2 rfl) ?_
        refine lv_iload_n hx hb d_N_take_31 rfl (lv_at hl 1 rfl) ?_
        have e9 : i = kD (V a) := by omega
        subst e9
        refine wcV_v (As := [.int (nI (kD (V a)))]) hx hb hC hw (k_N_settle l T (va_up (fF V) x f) (fU V) K I O x (kD (V x)) (kD (V a)) (V a) hi rfl (kD_le _) (kD_le _) (fun j hj => by rw [va_up_self]; unfold nd; rw [h1 j hj]; exact fD_in _ _) (fun j a1 a2 a3 => by rw [va_up_self, h2 j a1]; exact fD_zero (hV x hi) a2) (by rw [va_up_self, ← fD_evI (hV a ha)]; exact lm_congr (fun j hj => by unfold nd; rw [h1 j hj]))) lk_N_39 rfl rfl ⟨by show 0 + 1 ≤ R.frames; omega, by show 8 + (3 + 11) + 0 ≤ R.locals; omega⟩ (by omega) (we_Natural (by omega)) rfl rfl hl.1 rfl (Nat.le_of_ble_eq_true rfl) ⟨Nat.zero_le _, Nat.zero_le _⟩ d_N_take_32 (fun H locs hw => ?_)
        rw [bx_uu, fF_up, fU_up] at hw
        exact hret _ _ _ _ hw d_N_take_35
      · exact absurd h (by omega)
    | succ n ih =>
      intro i f ls H locs hn hi2 h1 h2 hl hw
      refine lv_iload_n hx hb d_N_take_7 rfl (lv_at hl 0 rfl) ?_
      refine lv_iload_n hx hb d_N_take_8 rfl (lv_at hl 1 rfl) ?_
      refine n_icmp_ge (tgt := 30) hx hb d_N_take_9 (by decide) (by omega) (by omega) (fun h => ?_) (fun h => ?_)
      · exact absurd h (by omega)
      · refine lv_aload_n hx hb d_N_take_12 rfl (lv_at hl 2 rfl) ?_
        refine wg_Natural_limbs hx hb hC hw (by omega) bw_43 d_N_take_13 ?_
        refine lv_iload_n hx hb d_N_take_16 rfl (lv_at hl 0 rfl) ?_
        refine lv_aload_n hx hb d_N_take_17 rfl (lv_at hl 3 rfl) ?_
        refine wg_Natural_limbs hx hb hC hw (by omega) bw_43 d_N_take_18 ?_
        refine lv_iload_n hx hb d_N_take_21 rfl (lv_at hl 0 rfl) ?_
        refine wl_limbs hx hb hw (by omega) (by omega) d_N_take_22 ?_
        refine sw_l (y := fD (V a) i) (by
            by_cases ea : a = x
            · subst ea; rw [va_up_self]; exact h2 i (Nat.le_refl i)
            · rw [va_up_ne _ _ ea]; rfl) ?_
        refine ws_limbs hx hb hw (by omega) (by omega) d_N_take_23 (fun H locs hw => ?_)
        refine lv_iinc (v := nI (i + 1)) hx hb d_N_take_24 hl (k := 0) rfl (nI_add _ 1) (by decide) rfl (fun ls hl => ?_)
        have hl : lv_has ls 4 [(3, .int (nI (i + 1))), (2, .int (nI (kD (V a)))), (0, .ref (wa T x)), (1, .ref (wa T a))] := hl
        refine lv_goto (tgt := 7) hx hb d_N_take_27 (by decide) ?_
        rw [bx_uu, va_up_self] at hw
        refine ih (i + 1) _ ls H locs (by omega) (by omega) (fun j hj => ?_) (fun j hj => ?_) hl hw
        · by_cases ej : j = i
          · rw [ej, pk_uLs]
          · rw [pk_uLn ej]; exact h1 j (by omega)
        · rw [pk_uLn (by omega)]; exact h2 j (by omega)
  exact lp (kD (V a)) 0 (fD (V x)) ls _ _ (by omega) (by omega) (fun j h => absurd h (by omega)) (fun _ _ => rfl) hl hw
end
section
/-! Natural: sums and differences -/
theorem pv_sum {f : Nat → Int64} {i : Nat} {c x y t : Int64} {S : Int} (hc : 0 ≤ c.toInt ∧ c.toInt ≤ 1) (hx : 0 ≤ x.toInt ∧ x.toInt < 268435456) (hy : 0 ≤ y.toInt ∧ y.toInt < 268435456) (ht : t = c + (x + y)) (h : lm_ev b28 (nd f) i + c.toInt * b28 ^ i = S) :
    (0 ≤ (t >>> ((nI 28).toInt64 &&& 63)).toInt ∧ (t >>> ((nI 28).toInt64 &&& 63)).toInt ≤ 1) ∧ lm_ev b28 (nd (vp_updL f i (t &&& 268435455))) (i + 1) + (t >>> ((nI 28).toInt64 &&& 63)).toInt * b28 ^ (i + 1) = S + (x.toInt + y.toInt) * b28 ^ i := pu_sum hc hx hy ht h
theorem pv_dif {f : Nat → Int64} {i : Nat} {c x y t : Int64} {S : Int} (hc : -1 ≤ c.toInt ∧ c.toInt ≤ 0) (hx : 0 ≤ x.toInt ∧ x.toInt < 268435456) (hy : 0 ≤ y.toInt ∧ y.toInt < 268435456) (ht : t = c + (x - y)) (h : lm_ev b28 (nd f) i + c.toInt * b28 ^ i = S) :
    (-1 ≤ (t >>> ((nI 28).toInt64 &&& 63)).toInt ∧ (t >>> ((nI 28).toInt64 &&& 63)).toInt ≤ 0) ∧ lm_ev b28 (nd (vp_updL f i (t &&& 268435455))) (i + 1) + (t >>> ((nI 28).toInt64 &&& 63)).toInt * b28 ^ (i + 1) = S + (x.toInt - y.toInt) * b28 ^ i := pu_dif hc hx hy ht h
theorem pv_alias {V : Nat → Nat} {x a i : Nat} {f : Nat → Int64} (h : ∀ j, i ≤ j → f j = fD (V x) j) : va_up (fF V) x f a i = fD (V a) i := by
  by_cases ea : a = x
  · subst ea; rw [va_up_self]; exact h i (Nat.le_refl i)
  · rw [va_up_ne _ _ ea]; rfl
/-- a difference that isn't below 0 leaves no carry -/
theorem pv_nocarry {f : Nat → Int64} {n : Nat} {c a b : Int} (hd : ∀ j, j < n → 0 ≤ nd f j ∧ nd f j < b28) (hc : -1 ≤ c ∧ c ≤ 0) (h : lm_ev b28 (nd f) n + c * b28 ^ n = a - b) (hab : b ≤ a) : c = 0 := by
  have h1 := lm_lt b28_pos (f := nd f) (n := n) (fun j hj => (hd j hj).2)
  have h2 := lm_powpos b28_pos n
  by_cases e : c = 0
  · exact e
  · have e1 : c = -1 := by omega
    rw [e1] at h
    omega

section MA
variable {p : Program} {l : Launch} {e : Env} {R : Room} {s : State} {m : MethodId} {args : Array Value} {below : List Frame} {meth : Method} {c : Code} {H H0 : Heap} {locs : List Loc} {cells slots : Nat} {Q : State → Prop}
variable {cc : ByteArray} {pc maxL index : Nat} {ls : Array Slot} {rest : List Value} {own : String}
theorem mc_maxI : Cond.code Lib.Math.max.name Lib.Math.max.code 2 (some .int) ∈ bg := bg_at 382 (by decide +kernel) (by decide +kernel)
theorem ms_maxI : Cond.static Lib.Math.max.name ∈ bg := bg_at 381 (by decide +kernel) (by decide +kernel)
theorem wm_maxI {a b : Nat} (hx : p.tables.exec = Jvm.exec) (hb : c.code = cc) (hC : wC m c maxL s args own) (hlk : Cond.methodLink own index Lib.Math.max.name ∈ bg) (ha : a < 2147483648) (hb2 : b < 2147483648) (hls : ls.size = maxL) (hf : 1 ≤ R.frames) (hl : (rest.map fun v => v.category).sum + 13 ≤ R.locals) (hcs : cells ≤ R.cells ∧ slots ≤ R.slots) (hdg : decode cc pc = .ok (.invokestatic index, 3)) (kk : W p l e R s m args below meth c H locs cells slots Q (F0 m (pc + 3) ls (.int (nI (max a b)) :: rest))) : W p l e R s m args below meth c H locs cells slots Q (F0 m pc ls (.int (nI b) :: .int (nI a) :: rest)) := by
  refine va_mmax hx hb (hC.1.trans hls.symm) hC.2.2 (hC.hts hlk) (hC.hts ms_maxI) (hC.hts bw_14) (hC.hts mc_maxI) hf hl hcs.1 hcs.2 hdg (sw_i ?_ kk)
  split
  · rename_i h; rw [nI_ltI ha hb2] at h; congr 1; omega
  · rename_i h; rw [nI_ltI ha hb2] at h; congr 1; omega
theorem mc_minI : Cond.code Lib.Math.min.name Lib.Math.min.code 2 (some .int) ∈ bg := bg_at 573 (by decide +kernel) (by decide +kernel)
theorem ms_minI : Cond.static Lib.Math.min.name ∈ bg := bg_at 572 (by decide +kernel) (by decide +kernel)
theorem wm_minI {a b : Nat} (hx : p.tables.exec = Jvm.exec) (hb : c.code = cc) (hC : wC m c maxL s args own) (hlk : Cond.methodLink own index Lib.Math.min.name ∈ bg) (ha : a < 2147483648) (hb2 : b < 2147483648) (hls : ls.size = maxL) (hf : 1 ≤ R.frames) (hl : (rest.map fun v => v.category).sum + 13 ≤ R.locals) (hcs : cells ≤ R.cells ∧ slots ≤ R.slots) (hdg : decode cc pc = .ok (.invokestatic index, 3)) (kk : W p l e R s m args below meth c H locs cells slots Q (F0 m (pc + 3) ls (.int (nI (min a b)) :: rest))) : W p l e R s m args below meth c H locs cells slots Q (F0 m pc ls (.int (nI b) :: .int (nI a) :: rest)) := by
  refine va_mmin hx hb (hC.1.trans hls.symm) hC.2.2 (hC.hts hlk) (hC.hts ms_minI) (hC.hts bw_14) (hC.hts mc_minI) hf hl hcs.1 hcs.2 hdg (sw_i ?_ kk)
  split
  · rename_i h; rw [nI_ltI hb2 ha] at h; congr 1; omega
  · rename_i h; rw [nI_ltI hb2 ha] at h; congr 1; omega
theorem mc_minJ : Cond.code Lib.MathLoose.min_long.x Lib.MathLoose.min_long.code 4 (some .long) ∈ bg := bg_at 531 (by decide +kernel) (by decide +kernel)
theorem ms_minJ : Cond.static Lib.MathLoose.min_long.x ∈ bg := bg_at 530 (by decide +kernel) (by decide +kernel)
theorem wm_minJ {x y : Int64} (hx : p.tables.exec = Jvm.exec) (hb : c.code = cc) (hC : wC m c maxL s args own) (hlk : Cond.methodLink own index Lib.MathLoose.min_long.x ∈ bg) (hls : ls.size = maxL) (hf : 1 ≤ R.frames) (hl : (rest.map fun v => v.category).sum + 15 ≤ R.locals) (hcs : cells ≤ R.cells ∧ slots ≤ R.slots) (hdg : decode cc pc = .ok (.invokestatic index, 3)) (kk : W p l e R s m args below meth c H locs cells slots Q (F0 m (pc + 3) ls (.long (if y < x then y else x) :: rest))) : W p l e R s m args below meth c H locs cells slots Q (F0 m pc ls (.long y :: .long x :: rest)) := va_mmin_long hx hb (hC.1.trans hls.symm) hC.2.2 (hC.hts hlk) (hC.hts ms_minJ) (hC.hts bw_14) (hC.hts mc_minJ) hf hl hcs.1 hcs.2 hdg kk
theorem ml_340 : Cond.methodLink "LimbRegisters$Natural" 45 Lib.Math.max.name ∈ bg := bg_at 380 (by decide +kernel) (by decide +kernel)
theorem ml_489 : Cond.methodLink "LimbRegisters$Division" 90 Lib.MathLoose.min_long.x ∈ bg := bg_at 529 (by decide +kernel) (by decide +kernel)
theorem ml_522 : Cond.methodLink "LimbRegisters" 118 Lib.Math.max.name ∈ bg := bg_at 562 (by decide +kernel) (by decide +kernel)
theorem ml_531 : Cond.methodLink "LimbRegisters$Natural" 33 Lib.Math.min.name ∈ bg := bg_at 571 (by decide +kernel) (by decide +kernel)
end MA
set_option maxRecDepth 100000 in
set_option maxHeartbeats 4000000 in
theorem k_N_takeSum (l : Launch) (T : wT) (V : Nat → Nat) (K : wUt) (I : wIt) (O : wOt) (x a b : Nat) (hi : x < 34) (ha : a < 34) (hb9 : b < 34) (hka : kD (V a) ≤ 74) (hkb : kD (V b) ≤ 74) (hV : ∀ n, n < 34 → V n < vLim) : Met l y_N_takeSum (.code y_N_takeSum c_N_takeSum 7 none :: bg) ({ frames := 1, cells := 0, slots := 0, locals := 22 } : Room) (mP T (fF V) (fU V) K I O [.ref (wa T x), .ref (wa T a), .ref (wa T b)]) (mQv T (fF (va_up V x (V a + V b))) (fU (va_up V x (V a + V b))) K I O) 0 0 (wA T) := by
  refine wM_v (by decide) (Nat.le_of_ble_eq_true rfl) ?_
  intro p e R s m args below meth c Q ls hx hb hC hRf hRl hret hl hw
  have hRf : 1 ≤ R.frames := hRf
  have hRl : 22 ≤ R.locals := hRl
  have hl : lv_has ls 7 [(0, .ref (wa T x)), (1, .ref (wa T a)), (2, .ref (wa T b))] := hl
  refine lv_aload_n hx hb d_N_takeSum_0 rfl (lv_at hl 1 rfl) ?_
  refine wg_Natural_used hx hb hC hw (by omega) bw_45 d_N_takeSum_1 ?_
  refine sw_i (y := nI (kD (V a))) (rfl) ?_
  refine lv_aload_n hx hb d_N_takeSum_4 rfl (lv_at hl 2 rfl) ?_
  refine wg_Natural_used hx hb hC hw (by omega) bw_45 d_N_takeSum_5 ?_
  refine sw_i (y := nI (kD (V b))) (rfl) ?_
  refine wm_maxI hx hb hC ml_340 (by omega) (by omega) hl.1 (by omega) (by show 0 + 13 ≤ R.locals; omega) ⟨Nat.zero_le _, Nat.zero_le _⟩ d_N_takeSum_8 ?_
  generalize hen : max (kD (V a)) (kD (V b)) = en
  refine lv_istore_n hx hb d_N_takeSum_11 rfl hl (by decide) rfl (fun ls hl => ?_)
  have hl : lv_has ls 7 [(3, .int (nI en)), (0, .ref (wa T x)), (1, .ref (wa T a)), (2, .ref (wa T b))] := hl
  refine lv_lconst (v := 0) hx hb d_N_takeSum_12 (by decide +kernel) ?_
  refine lv_lstore hx hb d_N_takeSum_13 hl (by decide) rfl (fun ls hl => ?_)
  have hl : lv_has ls 7 [(4, .long (0 : Int64)), (3, .int (nI en)), (0, .ref (wa T x)), (1, .ref (wa T a)), (2, .ref (wa T b))] := hl
  refine lv_iconst (v := nI 0) hx hb d_N_takeSum_15 (by decide +kernel) ?_
  refine lv_istore hx hb d_N_takeSum_16 hl (by decide) rfl (fun ls hl => ?_)
  have hl : lv_has ls 7 [(6, .int (nI 0)), (4, .long (0 : Int64)), (3, .int (nI en)), (0, .ref (wa T x)), (1, .ref (wa T a)), (2, .ref (wa T b))] := hl
  rw [← va_upx (fF V) x] at hw
  have hb74 : en ≤ 74 := by omega
  have lp : ∀ (n i : Nat) (f : Nat → Int64) (cy : Int64) (ls : Array Slot) (H : Heap) (locs : List Loc), en - i = n → i ≤ en → (0 ≤ cy.toInt ∧ cy.toInt ≤ 1) → (lm_ev b28 (nd f) i + cy.toInt * b28 ^ i = lm_ev b28 (nd (fD (V a))) i + lm_ev b28 (nd (fD (V b))) i) → (∀ j, j < i → 0 ≤ nd f j ∧ nd f j < b28) → (∀ j, i ≤ j → f j = fD (V x) j) →  lv_has ls 7 [(6, .int (nI i)), (4, .long cy), (3, .int (nI en)), (0, .ref (wa T x)), (1, .ref (wa T a)), (2, .ref (wa T b))] → wH T (va_up (fF V) x f) (fU V) K I O (wA T) s s.heap H locs → W p l e R s m args below meth c H locs 0 0 Q (F0 m 18 ls []) := by
    intro n
    induction n with
    | zero =>
      intro i f cy ls H locs hn hle h1 h2 h3 h4 hl hw
      refine lv_iload hx hb d_N_takeSum_18 (lv_at hl 0 rfl) ?_
      refine lv_iload_n hx hb d_N_takeSum_20 rfl (lv_at hl 2 rfl) ?_
      refine n_icmp_ge (tgt := 70) hx hb d_N_takeSum_21 (by decide) (by omega) (by omega) (fun h0 => ?_) (fun h0 => ?_)
      · have e9 : en = i := by omega
        subst e9
        refine lv_aload_n hx hb d_N_takeSum_70 rfl (lv_at hl 3 rfl) ?_
        refine wg_Natural_limbs hx hb hC hw (by omega) bw_43 d_N_takeSum_71 ?_
        refine lv_iload_n hx hb d_N_takeSum_74 rfl (lv_at hl 2 rfl) ?_
        refine lv_lload hx hb d_N_takeSum_75 (lv_at hl 1 rfl) ?_
        refine ws_limbs hx hb hw (by omega) (by omega) d_N_takeSum_77 (fun H locs hw => ?_)
        refine lv_aload_n hx hb d_N_takeSum_78 rfl (lv_at hl 3 rfl) ?_
        refine lv_iload_n hx hb d_N_takeSum_79 rfl (lv_at hl 2 rfl) ?_
        refine lv_iconst (v := nI 1) hx hb d_N_takeSum_80 (by decide +kernel) ?_
        refine n_iadd hx hb d_N_takeSum_81 ?_
        rw [bx_uu, va_up_self] at hw
        have s1 : ∀ j, j < en + 1 → 0 ≤ nd (vp_updL f en cy) j ∧ nd (vp_updL f en cy) j < b28 := fun j hj => by
          by_cases ej : j = en
          · rw [ej, nd_upd]; exact ⟨h1.1, by show cy.toInt < 268435456; omega⟩
          · rw [nd_updN ej]; exact h3 j (by omega)
        have s2 : lm_ev b28 (nd (vp_updL f en cy)) (en + 1) = ((V a + V b : Nat) : Int) := by
          rw [lm_evs, nd_upd, nd_evU (Nat.le_refl en), h2, fD_ev_k (hV a ha) (by omega), fD_ev_k (hV b hb9) (by omega)]; omega
        refine wcV_v (As := [.int (nI (en + 1))]) hx hb hC hw (k_N_settle l T (va_up (fF V) x (vp_updL f en cy)) (fU V) K I O x (kD (V x)) (en + 1) (V a + V b) hi rfl (kD_le _) (by omega) (by rw [va_up_self]; exact s1) (fun j a1 a2 a3 => by rw [va_up_self, pk_uLn (by omega), h4 j (by omega)]; exact fD_zero (hV x hi) a2) (by rw [va_up_self]; exact s2)) lk_N_39 rfl rfl ⟨by show 0 + 1 ≤ R.frames; omega, by show 8 + (3 + 11) + 0 ≤ R.locals; omega⟩ (by omega) (we_Natural (by omega)) rfl rfl hl.1 rfl (Nat.le_of_ble_eq_true rfl) ⟨Nat.zero_le _, Nat.zero_le _⟩ d_N_takeSum_82 (fun H locs hw => ?_)
        rw [bx_uu, fF_up, fU_up] at hw
        exact hret _ _ _ _ hw d_N_takeSum_85
      · exact absurd h0 (by omega)
    | succ n ih =>
      intro i f cy ls H locs hn hle h1 h2 h3 h4 hl hw
      refine lv_iload hx hb d_N_takeSum_18 (lv_at hl 0 rfl) ?_
      refine lv_iload_n hx hb d_N_takeSum_20 rfl (lv_at hl 2 rfl) ?_
      refine n_icmp_ge (tgt := 70) hx hb d_N_takeSum_21 (by decide) (by omega) (by omega) (fun h0 => ?_) (fun h0 => ?_)
      · exact absurd h0 (by omega)
      · refine lv_lload hx hb d_N_takeSum_24 (lv_at hl 1 rfl) ?_
        refine lv_aload_n hx hb d_N_takeSum_26 rfl (lv_at hl 4 rfl) ?_
        refine wg_Natural_limbs hx hb hC hw (by omega) bw_43 d_N_takeSum_27 ?_
        refine lv_iload hx hb d_N_takeSum_30 (lv_at hl 0 rfl) ?_
        refine wl_limbs hx hb hw (by omega) (by omega) d_N_takeSum_32 ?_
        refine sw_l (y := fD (V a) i) (pv_alias h4) ?_
        refine lv_aload_n hx hb d_N_takeSum_33 rfl (lv_at hl 5 rfl) ?_
        refine wg_Natural_limbs hx hb hC hw (by omega) bw_43 d_N_takeSum_34 ?_
        refine lv_iload hx hb d_N_takeSum_37 (lv_at hl 0 rfl) ?_
        refine wl_limbs hx hb hw (by omega) (by omega) d_N_takeSum_39 ?_
        refine sw_l (y := fD (V b) i) (pv_alias h4) ?_
        refine lv_ladd hx hb d_N_takeSum_40 ?_
        refine lv_ladd hx hb d_N_takeSum_41 ?_
        refine lv_topl (fun t et => ?_)
        refine lv_lstore hx hb d_N_takeSum_42 hl (by decide) rfl (fun ls hl => ?_)
        have hl : lv_has ls 7 [(4, .long t), (6, .int (nI i)), (3, .int (nI en)), (0, .ref (wa T x)), (1, .ref (wa T a)), (2, .ref (wa T b))] := hl
        refine lv_aload_n hx hb d_N_takeSum_44 rfl (lv_at hl 3 rfl) ?_
        refine wg_Natural_limbs hx hb hC hw (by omega) bw_43 d_N_takeSum_45 ?_
        refine lv_iload hx hb d_N_takeSum_48 (lv_at hl 1 rfl) ?_
        refine lv_lload hx hb d_N_takeSum_50 (lv_at hl 0 rfl) ?_
        refine lv_ldc2 (v := 268435455) hx hb hC.ow (hC.hts bw_300) d_N_takeSum_52 ?_
        refine lv_land hx hb d_N_takeSum_55 ?_
        refine ws_limbs hx hb hw (by omega) (by omega) d_N_takeSum_56 (fun H locs hw => ?_)
        refine lv_lload hx hb d_N_takeSum_57 (lv_at hl 0 rfl) ?_
        refine lv_bipush (v := nI 28) hx hb d_N_takeSum_59 (by decide +kernel) ?_
        refine lv_lshr hx hb d_N_takeSum_61 rfl ?_
        refine lv_lstore hx hb d_N_takeSum_62 hl (by decide) rfl (fun ls hl => ?_)
        have hl : lv_has ls 7 [(4, .long (t >>> ((nI 28).toInt64 &&& 63))), (6, .int (nI i)), (3, .int (nI en)), (0, .ref (wa T x)), (1, .ref (wa T a)), (2, .ref (wa T b))] := hl
        refine lv_iinc (v := nI (i + 1)) hx hb d_N_takeSum_64 hl (k := 1) rfl (nI_add _ 1) (by decide) rfl (fun ls hl => ?_)
        have hl : lv_has ls 7 [(6, .int (nI (i + 1))), (4, .long (t >>> ((nI 28).toInt64 &&& 63))), (3, .int (nI en)), (0, .ref (wa T x)), (1, .ref (wa T a)), (2, .ref (wa T b))] := hl
        refine lv_goto (tgt := 18) hx hb d_N_takeSum_67 (by decide) ?_
        rw [bx_uu, va_up_self] at hw
        have q := pv_sum h1 (fD_in (V a) i) (fD_in (V b) i) et h2
        exact ih (i + 1) _ _ ls H locs (by omega) (by omega) q.1 (q.2.trans (lm_add2 rfl)) (pu_in h3) (fun j hj => by rw [pk_uLn (by omega)]; exact h4 j (by omega)) hl hw
  exact lp en 0 (fD (V x)) 0 ls _ _ (by omega) (by omega) (by decide +kernel) (by rw [lm_ev0, lm_ev0, lm_ev0, lj_0]; rfl) (fun j h => absurd h (by omega)) (fun _ _ => rfl) hl hw
set_option maxRecDepth 100000 in
set_option maxHeartbeats 4000000 in
theorem k_N_takeDifference (l : Launch) (T : wT) (V : Nat → Nat) (K : wUt) (I : wIt) (O : wOt) (x a b : Nat) (hi : x < 34) (ha : a < 34) (hb9 : b < 34) (hab : V b ≤ V a) (hV : ∀ n, n < 34 → V n < vLim) : Met l y_N_takeDifference (.code y_N_takeDifference c_N_takeDifference 7 none :: bg) ({ frames := 1, cells := 0, slots := 0, locals := 22 } : Room) (mP T (fF V) (fU V) K I O [.ref (wa T x), .ref (wa T a), .ref (wa T b)]) (mQv T (fF (va_up V x (V a - V b))) (fU (va_up V x (V a - V b))) K I O) 0 0 (wA T) := by
  refine wM_v (by decide) (Nat.le_of_ble_eq_true rfl) ?_
  intro p e R s m args below meth c Q ls hx hb hC hRf hRl hret hl hw
  have hRf : 1 ≤ R.frames := hRf
  have hRl : 22 ≤ R.locals := hRl
  have hl : lv_has ls 7 [(0, .ref (wa T x)), (1, .ref (wa T a)), (2, .ref (wa T b))] := hl
  have hka := kD_le (V a)
  have hkb : kD (V b) ≤ kD (V a) := by
    apply Nat.le_of_not_lt; intro q9
    have := kD_less (hV a ha) q9; omega
  generalize hen : kD (V a) = en at hka hkb
  refine lv_aload_n hx hb d_N_takeDifference_0 rfl (lv_at hl 1 rfl) ?_
  refine wg_Natural_used hx hb hC hw (by omega) bw_45 d_N_takeDifference_1 ?_
  refine sw_i (y := nI en) (by rw [← hen]; rfl) ?_
  refine lv_istore_n hx hb d_N_takeDifference_4 rfl hl (by decide) rfl (fun ls hl => ?_)
  have hl : lv_has ls 7 [(3, .int (nI en)), (0, .ref (wa T x)), (1, .ref (wa T a)), (2, .ref (wa T b))] := hl
  refine lv_lconst (v := 0) hx hb d_N_takeDifference_5 (by decide +kernel) ?_
  refine lv_lstore hx hb d_N_takeDifference_6 hl (by decide) rfl (fun ls hl => ?_)
  have hl : lv_has ls 7 [(4, .long (0 : Int64)), (3, .int (nI en)), (0, .ref (wa T x)), (1, .ref (wa T a)), (2, .ref (wa T b))] := hl
  refine lv_iconst (v := nI 0) hx hb d_N_takeDifference_8 (by decide +kernel) ?_
  refine lv_istore hx hb d_N_takeDifference_9 hl (by decide) rfl (fun ls hl => ?_)
  have hl : lv_has ls 7 [(6, .int (nI 0)), (4, .long (0 : Int64)), (3, .int (nI en)), (0, .ref (wa T x)), (1, .ref (wa T a)), (2, .ref (wa T b))] := hl
  rw [← va_upx (fF V) x] at hw
  have lp : ∀ (n i : Nat) (f : Nat → Int64) (cy : Int64) (ls : Array Slot) (H : Heap) (locs : List Loc), en - i = n → i ≤ en → (-1 ≤ cy.toInt ∧ cy.toInt ≤ 0) → (lm_ev b28 (nd f) i + cy.toInt * b28 ^ i = lm_ev b28 (nd (fD (V a))) i - lm_ev b28 (nd (fD (V b))) i) → (∀ j, j < i → 0 ≤ nd f j ∧ nd f j < b28) → (∀ j, i ≤ j → f j = fD (V x) j) →  lv_has ls 7 [(6, .int (nI i)), (4, .long cy), (3, .int (nI en)), (0, .ref (wa T x)), (1, .ref (wa T a)), (2, .ref (wa T b))] → wH T (va_up (fF V) x f) (fU V) K I O (wA T) s s.heap H locs → W p l e R s m args below meth c H locs 0 0 Q (F0 m 11 ls []) := by
    intro n
    induction n with
    | zero =>
      intro i f cy ls H locs hn hle h1 h2 h3 h4 hl hw
      refine lv_iload hx hb d_N_takeDifference_11 (lv_at hl 0 rfl) ?_
      refine lv_iload_n hx hb d_N_takeDifference_13 rfl (lv_at hl 2 rfl) ?_
      refine n_icmp_ge (tgt := 63) hx hb d_N_takeDifference_14 (by decide) (by omega) (by omega) (fun h0 => ?_) (fun h0 => ?_)
      · have e9 : en = i := by omega
        subst e9
        refine lv_aload_n hx hb d_N_takeDifference_63 rfl (lv_at hl 3 rfl) ?_
        refine lv_iload_n hx hb d_N_takeDifference_64 rfl (lv_at hl 2 rfl) ?_
        have c0 := pv_nocarry h3 h1 h2 (by rw [fD_ev_k (hV a ha) (by omega), fD_ev_k (hV b hb9) (by omega)]; omega)
        have s2 : lm_ev b28 (nd f) en = ((V a - V b : Nat) : Int) := by
          rw [c0, fD_ev_k (hV a ha) (by omega), fD_ev_k (hV b hb9) (by omega)] at h2; omega
        refine wcV_v (As := [.int (nI en)]) hx hb hC hw (k_N_settle l T (va_up (fF V) x f) (fU V) K I O x (kD (V x)) en (V a - V b) hi rfl (kD_le _) (by omega) (by rw [va_up_self]; exact h3) (fun j a1 a2 a3 => by rw [va_up_self, h4 j (by omega)]; exact fD_zero (hV x hi) a2) (by rw [va_up_self]; exact s2)) lk_N_39 rfl rfl ⟨by show 0 + 1 ≤ R.frames; omega, by show 8 + (3 + 11) + 0 ≤ R.locals; omega⟩ (by omega) (we_Natural (by omega)) rfl rfl hl.1 rfl (Nat.le_of_ble_eq_true rfl) ⟨Nat.zero_le _, Nat.zero_le _⟩ d_N_takeDifference_65 (fun H locs hw => ?_)
        rw [bx_uu, fF_up, fU_up] at hw
        exact hret _ _ _ _ hw d_N_takeDifference_68
      · exact absurd h0 (by omega)
    | succ n ih =>
      intro i f cy ls H locs hn hle h1 h2 h3 h4 hl hw
      refine lv_iload hx hb d_N_takeDifference_11 (lv_at hl 0 rfl) ?_
      refine lv_iload_n hx hb d_N_takeDifference_13 rfl (lv_at hl 2 rfl) ?_
      refine n_icmp_ge (tgt := 63) hx hb d_N_takeDifference_14 (by decide) (by omega) (by omega) (fun h0 => ?_) (fun h0 => ?_)
      · exact absurd h0 (by omega)
      · refine lv_lload hx hb d_N_takeDifference_17 (lv_at hl 1 rfl) ?_
        refine lv_aload_n hx hb d_N_takeDifference_19 rfl (lv_at hl 4 rfl) ?_
        refine wg_Natural_limbs hx hb hC hw (by omega) bw_43 d_N_takeDifference_20 ?_
        refine lv_iload hx hb d_N_takeDifference_23 (lv_at hl 0 rfl) ?_
        refine wl_limbs hx hb hw (by omega) (by omega) d_N_takeDifference_25 ?_
        refine sw_l (y := fD (V a) i) (pv_alias h4) ?_
        refine lv_aload_n hx hb d_N_takeDifference_26 rfl (lv_at hl 5 rfl) ?_
        refine wg_Natural_limbs hx hb hC hw (by omega) bw_43 d_N_takeDifference_27 ?_
        refine lv_iload hx hb d_N_takeDifference_30 (lv_at hl 0 rfl) ?_
        refine wl_limbs hx hb hw (by omega) (by omega) d_N_takeDifference_32 ?_
        refine sw_l (y := fD (V b) i) (pv_alias h4) ?_
        refine lv_lsub hx hb d_N_takeDifference_33 ?_
        refine lv_ladd hx hb d_N_takeDifference_34 ?_
        refine lv_topl (fun t et => ?_)
        refine lv_lstore hx hb d_N_takeDifference_35 hl (by decide) rfl (fun ls hl => ?_)
        have hl : lv_has ls 7 [(4, .long t), (6, .int (nI i)), (3, .int (nI en)), (0, .ref (wa T x)), (1, .ref (wa T a)), (2, .ref (wa T b))] := hl
        refine lv_aload_n hx hb d_N_takeDifference_37 rfl (lv_at hl 3 rfl) ?_
        refine wg_Natural_limbs hx hb hC hw (by omega) bw_43 d_N_takeDifference_38 ?_
        refine lv_iload hx hb d_N_takeDifference_41 (lv_at hl 1 rfl) ?_
        refine lv_lload hx hb d_N_takeDifference_43 (lv_at hl 0 rfl) ?_
        refine lv_ldc2 (v := 268435455) hx hb hC.ow (hC.hts bw_300) d_N_takeDifference_45 ?_
        refine lv_land hx hb d_N_takeDifference_48 ?_
        refine ws_limbs hx hb hw (by omega) (by omega) d_N_takeDifference_49 (fun H locs hw => ?_)
        refine lv_lload hx hb d_N_takeDifference_50 (lv_at hl 0 rfl) ?_
        refine lv_bipush (v := nI 28) hx hb d_N_takeDifference_52 (by decide +kernel) ?_
        refine lv_lshr hx hb d_N_takeDifference_54 rfl ?_
        refine lv_lstore hx hb d_N_takeDifference_55 hl (by decide) rfl (fun ls hl => ?_)
        have hl : lv_has ls 7 [(4, .long (t >>> ((nI 28).toInt64 &&& 63))), (6, .int (nI i)), (3, .int (nI en)), (0, .ref (wa T x)), (1, .ref (wa T a)), (2, .ref (wa T b))] := hl
        refine lv_iinc (v := nI (i + 1)) hx hb d_N_takeDifference_57 hl (k := 1) rfl (nI_add _ 1) (by decide) rfl (fun ls hl => ?_)
        have hl : lv_has ls 7 [(6, .int (nI (i + 1))), (4, .long (t >>> ((nI 28).toInt64 &&& 63))), (3, .int (nI en)), (0, .ref (wa T x)), (1, .ref (wa T a)), (2, .ref (wa T b))] := hl
        refine lv_goto (tgt := 11) hx hb d_N_takeDifference_60 (by decide) ?_
        rw [bx_uu, va_up_self] at hw
        have q := pv_dif h1 (fD_in (V a) i) (fD_in (V b) i) et h2
        exact ih (i + 1) _ _ ls H locs (by omega) (by omega) q.1 (q.2.trans (lm_sub2 rfl)) (pu_in h3) (fun j hj => by rw [pk_uLn (by omega)]; exact h4 j (by omega)) hl hw
  exact lp en 0 (fD (V x)) 0 ls _ _ (by omega) (by omega) (by decide +kernel) (by rw [lm_ev0, lm_ev0, lm_ev0, lj_0]; rfl) (fun j h => absurd h (by omega)) (fun _ _ => rfl) hl hw
end
section
/-! Natural: products -/
def gaf (to fr : Nat → Int64) (lf : Nat) (g : Int64) (st : Nat) : Nat → Nat → Int64
  | 0 => to
  | n + 1 => vp_updL (gaf to fr lf g st n) (lf + (st + n)) (gaf to fr lf g st n (lf + (st + n)) + g * fr (st + n))
theorem gaf_s (to fr : Nat → Int64) (lf : Nat) (g : Int64) (st n : Nat) : gaf to fr lf g st (n + 1) = vp_updL (gaf to fr lf g st n) (lf + (st + n)) (gaf to fr lf g st n (lf + (st + n)) + g * fr (st + n)) := rfl
theorem gaf_out {to fr : Nat → Int64} {lf : Nat} {g : Int64} {st : Nat} : ∀ {n j : Nat}, (j < lf + st ∨ lf + st + n ≤ j) → gaf to fr lf g st n j = to j
  | 0, _, _ => rfl
  | n + 1, j, h => by rw [gaf_s, pk_uLn (by omega)]; exact gaf_out (by omega)
theorem gaf_in {to fr : Nat → Int64} {lf : Nat} {g : Int64} {st : Nat} : ∀ {n j : Nat}, lf + st ≤ j → j < lf + st + n → gaf to fr lf g st n j = to j + g * fr (j - lf)
  | 0, _, h1, h2 => absurd h2 (by omega)
  | n + 1, j, h1, h2 => by
    by_cases e : j = lf + (st + n)
    · rw [gaf_s, e, pk_uLs, gaf_out (by omega), Nat.add_sub_cancel_left]
    · rw [gaf_s, pk_uLn e]; exact gaf_in h1 (by omega)
theorem gaf_mul {g y : Int64} (hg : 0 ≤ g.toInt ∧ g.toInt ≤ 536870912) (hy : 0 ≤ y.toInt ∧ y.toInt < 268435456) : (g * y).toInt = g.toInt * y.toInt ∧ 0 ≤ g.toInt * y.toInt ∧ g.toInt * y.toInt ≤ 144115188075855872 := by
  have h := lm_mulbd hg.1 hy.1 hg.2 (show y.toInt ≤ 268435456 by omega)
  have e : (536870912 : Int) * 268435456 = 144115188075855872 := by decide
  rw [e] at h
  exact ⟨lj_mul (by omega) (by omega), h.1, h.2⟩
theorem gaf_toInt {x g y : Int64} (hx : 0 ≤ x.toInt ∧ x.toInt ≤ 8000000000000000000) (hg : 0 ≤ g.toInt ∧ g.toInt ≤ 536870912) (hy : 0 ≤ y.toInt ∧ y.toInt < 268435456) : (x + g * y).toInt = x.toInt + g.toInt * y.toInt := by
  obtain ⟨h1, h2, h3⟩ := gaf_mul hg hy
  rw [lj_add (by omega) (by omega), h1]
theorem gaf_ev {to fr : Nat → Int64} {lf : Nat} {g : Int64} {st N : Nat} (ht : ∀ j, j < N → 0 ≤ nd to j ∧ nd to j ≤ 8000000000000000000) (hg : 0 ≤ g.toInt ∧ g.toInt ≤ 536870912) (hf : ∀ j, 0 ≤ nd fr j ∧ nd fr j < b28) : ∀ {n : Nat}, lf + st + n ≤ N → lm_ev b28 (nd (gaf to fr lf g st n)) N = lm_ev b28 (nd to) N + g.toInt * b28 ^ lf * (lm_ev b28 (nd fr) (st + n) - lm_ev b28 (nd fr) st)
  | 0, _ => by show lm_ev b28 (nd to) N = _; rw [Nat.add_zero]; grind
  | n + 1, h => by
    have e0 : lm_ev b28 (nd fr) (st + (n + 1)) = lm_ev b28 (nd fr) (st + n) + nd fr (st + n) * b28 ^ (st + n) := rfl
    have e1 : nd (gaf to fr lf g st n) (lf + (st + n)) = nd to (lf + (st + n)) := by unfold nd; rw [gaf_out (by omega)]
    have e2 : (to (lf + (st + n)) + g * fr (st + n)).toInt = nd to (lf + (st + n)) + g.toInt * nd fr (st + n) := gaf_toInt (ht _ (by omega)) hg (hf _)
    rw [gaf_s, nd_upd_ev (by omega), gaf_ev ht hg hf (by omega), gaf_out (by omega), e2, e1, e0, Int.pow_add]
    grind
theorem cu_step {f : Nat → Int64} {i : Nat} {c x t : Int64} {S : Int} (hc : 0 ≤ c.toInt ∧ c.toInt ≤ 68719476736) (hx : 0 ≤ x.toInt ∧ x.toInt ≤ 8000000000000000000) (ht : t = c + x) (h : lm_ev b28 (nd f) i + c.toInt * b28 ^ i = S) :
    (0 ≤ (t >>> ((nI 28).toInt64 &&& 63)).toInt ∧ (t >>> ((nI 28).toInt64 &&& 63)).toInt ≤ 68719476736) ∧ lm_ev b28 (nd (vp_updL f i (t &&& 268435455))) (i + 1) + (t >>> ((nI 28).toInt64 &&& 63)).toInt * b28 ^ (i + 1) = S + x.toInt * b28 ^ i := by
  have e2 : t.toInt = c.toInt + x.toInt := by rw [ht, lj_add (by omega) (by omega)]
  refine ⟨?_, nd_carry e2 h⟩
  have e3 : (t >>> ((nI 28).toInt64 &&& 63)).toInt = t.toInt / 268435456 := lj_shr28 t
  rw [e3, e2]; omega
theorem cu_end {f : Nat → Int64} {n v : Nat} {c : Int} (hd : ∀ j, j < n → 0 ≤ nd f j ∧ nd f j < b28) (hc : 0 ≤ c) (h : lm_ev b28 (nd f) n + c * b28 ^ n = (v : Int)) (hv : v < vB ^ n) : c = 0 := by
  have h1 := lm_nonneg b28_pos (f := nd f) (n := n) (fun j hj => (hd j hj).1)
  have h2 := lm_powpos b28_pos n
  have h3 : (v : Int) < b28 ^ n := by rw [← vB_c, ← Int.natCast_pow]; exact Int.ofNat_lt.mpr hv
  by_cases e : c = 0
  · exact e
  · have h4 : 1 * b28 ^ n ≤ c * b28 ^ n := Int.mul_le_mul_of_nonneg_right (by omega) (by omega)
    omega

set_option maxRecDepth 100000 in
set_option maxHeartbeats 4000000 in
theorem k_N_gather (l : Launch) (T : wT) (F : wFt) (U K : wUt) (I : wIt) (O : wOt) (x b st lf kb : Nat) (g : Int64) (hi : x < 34) (hb9 : b < 34) (hxb : b ≠ x) (hU : U b = nI kb) (hst : st ≤ kb) (hlf : lf + kb ≤ 75) : Met l y_N_gather (.code y_N_gather c_N_gather 10 none :: bg) ({ frames := 0, cells := 0, slots := 0, locals := 0 } : Room) (mP T F U K I O [.ref (wa T x), .ref (wa T b), .int (nI st), .int (nI lf), .long g]) (mQv T (va_up F x (gaf (F x) (F b) lf g st (kb - st))) U K I O) 0 0 (wA T) := by
  refine wM_v (by decide) (Nat.le_of_ble_eq_true rfl) ?_
  intro p e R s m args below meth c Q ls hx hb hC hRf hRl hret hl hw
  have hRf : 0 ≤ R.frames := hRf
  have hRl : 0 ≤ R.locals := hRl
  have hl : lv_has ls 10 [(0, .ref (wa T x)), (1, .ref (wa T b)), (2, .int (nI st)), (3, .int (nI lf)), (4, .long g)] := hl
  refine lv_aload_n hx hb d_N_gather_0 rfl (lv_at hl 0 rfl) ?_
  refine wg_Natural_limbs hx hb hC hw (by omega) bw_43 d_N_gather_1 ?_
  refine lv_astore hx hb d_N_gather_4 hl (by decide) rfl (fun ls hl => ?_)
  have hl : lv_has ls 10 [(6, .ref (wa T (34 + x))), (0, .ref (wa T x)), (1, .ref (wa T b)), (2, .int (nI st)), (3, .int (nI lf)), (4, .long g)] := hl
  refine lv_aload_n hx hb d_N_gather_6 rfl (lv_at hl 2 rfl) ?_
  refine wg_Natural_limbs hx hb hC hw (by omega) bw_43 d_N_gather_7 ?_
  refine lv_astore hx hb d_N_gather_10 hl (by decide) rfl (fun ls hl => ?_)
  have hl : lv_has ls 10 [(7, .ref (wa T (34 + b))), (6, .ref (wa T (34 + x))), (0, .ref (wa T x)), (1, .ref (wa T b)), (2, .int (nI st)), (3, .int (nI lf)), (4, .long g)] := hl
  refine lv_aload_n hx hb d_N_gather_12 rfl (lv_at hl 3 rfl) ?_
  refine wg_Natural_used hx hb hC hw (by omega) bw_45 d_N_gather_13 ?_
  refine sw_i (y := nI kb) (hU) ?_
  refine lv_istore hx hb d_N_gather_16 hl (by decide) rfl (fun ls hl => ?_)
  have hl : lv_has ls 10 [(8, .int (nI kb)), (7, .ref (wa T (34 + b))), (6, .ref (wa T (34 + x))), (0, .ref (wa T x)), (1, .ref (wa T b)), (2, .int (nI st)), (3, .int (nI lf)), (4, .long g)] := hl
  refine lv_iload_n hx hb d_N_gather_18 rfl (lv_at hl 5 rfl) ?_
  refine lv_istore hx hb d_N_gather_19 hl (by decide) rfl (fun ls hl => ?_)
  have hl : lv_has ls 10 [(9, .int (nI st)), (8, .int (nI kb)), (7, .ref (wa T (34 + b))), (6, .ref (wa T (34 + x))), (0, .ref (wa T x)), (1, .ref (wa T b)), (2, .int (nI st)), (3, .int (nI lf)), (4, .long g)] := hl
  rw [← va_upx F x] at hw
  have lp : ∀ (n i : Nat)  (ls : Array Slot) (H : Heap) (locs : List Loc), kb - i = n → i ≤ kb → (st ≤ i) →  lv_has ls 10 [(9, .int (nI i)), (8, .int (nI kb)), (7, .ref (wa T (34 + b))), (6, .ref (wa T (34 + x))), (0, .ref (wa T x)), (1, .ref (wa T b)), (2, .int (nI st)), (3, .int (nI lf)), (4, .long g)] → wH T (va_up F x (gaf (F x) (F b) lf g st (i - st))) U K I O (wA T) s s.heap H locs → W p l e R s m args below meth c H locs 0 0 Q (F0 m 21 ls []) := by
    intro n
    induction n with
    | zero =>
      intro i  ls H locs hn hle h1 hl hw
      refine lv_iload hx hb d_N_gather_21 (lv_at hl 0 rfl) ?_
      refine lv_iload hx hb d_N_gather_23 (lv_at hl 1 rfl) ?_
      refine n_icmp_ge (tgt := 52) hx hb d_N_gather_25 (by decide) (by omega) (by omega) (fun h0 => ?_) (fun h0 => ?_)
      · have e9 : kb = i := by omega
        subst e9
        exact hret _ _ _ _ hw d_N_gather_52
      · exact absurd h0 (by omega)
    | succ n ih =>
      intro i  ls H locs hn hle h1 hl hw
      refine lv_iload hx hb d_N_gather_21 (lv_at hl 0 rfl) ?_
      refine lv_iload hx hb d_N_gather_23 (lv_at hl 1 rfl) ?_
      refine n_icmp_ge (tgt := 52) hx hb d_N_gather_25 (by decide) (by omega) (by omega) (fun h0 => ?_) (fun h0 => ?_)
      · exact absurd h0 (by omega)
      · obtain ⟨r, rfl⟩ : ∃ r, i = st + r := ⟨i - st, by omega⟩
        rw [show st + r - st = r by omega] at hw
        refine lv_aload hx hb d_N_gather_28 (lv_at hl 3 rfl) ?_
        refine lv_iload_n hx hb d_N_gather_30 rfl (lv_at hl 7 rfl) ?_
        refine lv_iload hx hb d_N_gather_31 (lv_at hl 0 rfl) ?_
        refine n_iadd hx hb d_N_gather_33 ?_
        refine lv_dup2_11 hx hb d_N_gather_34 rfl rfl ?_
        refine wl_limbs hx hb hw (by omega) (by omega) d_N_gather_35 ?_
        refine sw_l (y := gaf (F x) (F b) lf g st r (lf + (st + r))) (by rw [va_up_self]) ?_
        refine lv_lload hx hb d_N_gather_36 (lv_at hl 8 rfl) ?_
        refine lv_aload hx hb d_N_gather_38 (lv_at hl 2 rfl) ?_
        refine lv_iload hx hb d_N_gather_40 (lv_at hl 0 rfl) ?_
        refine wl_limbs hx hb hw (by omega) (by omega) d_N_gather_42 ?_
        refine sw_l (y := F b (st + r)) (by rw [va_up_ne _ _ hxb]) ?_
        refine lv_lmul hx hb d_N_gather_43 ?_
        refine lv_ladd hx hb d_N_gather_44 ?_
        refine ws_limbs hx hb hw (by omega) (by omega) d_N_gather_45 (fun H locs hw => ?_)
        refine lv_iinc (v := nI (st + r + 1)) hx hb d_N_gather_46 hl (k := 0) rfl (nI_add _ 1) (by decide) rfl (fun ls hl => ?_)
        have hl : lv_has ls 10 [(9, .int (nI (st + r + 1))), (8, .int (nI kb)), (7, .ref (wa T (34 + b))), (6, .ref (wa T (34 + x))), (0, .ref (wa T x)), (1, .ref (wa T b)), (2, .int (nI st)), (3, .int (nI lf)), (4, .long g)] := hl
        refine lv_goto (tgt := 21) hx hb d_N_gather_49 (by decide) ?_
        rw [bx_uu, va_up_self, ← gaf_s] at hw
        refine ih (st + r + 1) ls H locs (by omega) (by omega) (by omega) hl ?_
        rw [show st + r + 1 - st = r + 1 by omega]; exact hw
  exact lp (kb - st) st ls _ _ rfl hst (Nat.le_refl st) hl (by rw [Nat.sub_self]; exact hw)
set_option maxRecDepth 100000 in
set_option maxHeartbeats 4000000 in
theorem k_N_carryUp (l : Launch) (T : wT) (F : wFt) (U K : wUt) (I : wIt) (O : wOt) (x k0 en v : Nat) (hi : x < 34) (hU : U x = nI k0) (hk : k0 ≤ 75) (he : en ≤ 75) (hd : ∀ j, j < en → 0 ≤ nd (F x) j ∧ nd (F x) j ≤ 8000000000000000000) (hz : ∀ j, en ≤ j → k0 ≤ j → j < 75 → F x j = 0) (hv : lm_ev b28 (nd (F x)) en = (v : Int)) (hv2 : v < vB ^ en) : Met l y_N_carryUp (.code y_N_carryUp c_N_carryUp 5 none :: bg) ({ frames := 1, cells := 0, slots := 0, locals := 22 } : Room) (mP T F U K I O [.ref (wa T x), .int (nI en)]) (mQv T (va_up F x (fD v)) (va_up U x (uD v)) K I O) 0 0 (wA T) := by
  refine wM_v (by decide) (Nat.le_of_ble_eq_true rfl) ?_
  intro p e R s m args below meth c Q ls hx hb hC hRf hRl hret hl hw
  have hRf : 1 ≤ R.frames := hRf
  have hRl : 22 ≤ R.locals := hRl
  have hl : lv_has ls 5 [(0, .ref (wa T x)), (1, .int (nI en))] := hl
  refine lv_lconst (v := 0) hx hb d_N_carryUp_0 (by decide +kernel) ?_
  refine lv_lstore_n hx hb d_N_carryUp_1 rfl hl (by decide) rfl (fun ls hl => ?_)
  have hl : lv_has ls 5 [(2, .long (0 : Int64)), (0, .ref (wa T x)), (1, .int (nI en))] := hl
  refine lv_iconst (v := nI 0) hx hb d_N_carryUp_2 (by decide +kernel) ?_
  refine lv_istore hx hb d_N_carryUp_3 hl (by decide) rfl (fun ls hl => ?_)
  have hl : lv_has ls 5 [(4, .int (nI 0)), (2, .long (0 : Int64)), (0, .ref (wa T x)), (1, .int (nI en))] := hl
  rw [← va_upx F x] at hw
  have lp : ∀ (n i : Nat) (f : Nat → Int64) (cy : Int64) (ls : Array Slot) (H : Heap) (locs : List Loc), en - i = n → i ≤ en → (0 ≤ cy.toInt ∧ cy.toInt ≤ 68719476736) → (lm_ev b28 (nd f) i + cy.toInt * b28 ^ i = lm_ev b28 (nd (F x)) i) → (∀ j, j < i → 0 ≤ nd f j ∧ nd f j < b28) → (∀ j, i ≤ j → f j = F x j) →  lv_has ls 5 [(4, .int (nI i)), (2, .long cy), (0, .ref (wa T x)), (1, .int (nI en))] → wH T (va_up F x f) U K I O (wA T) s s.heap H locs → W p l e R s m args below meth c H locs 0 0 Q (F0 m 5 ls []) := by
    intro n
    induction n with
    | zero =>
      intro i f cy ls H locs hn hle h1 h2 h3 h4 hl hw
      refine lv_iload hx hb d_N_carryUp_5 (lv_at hl 0 rfl) ?_
      refine lv_iload_n hx hb d_N_carryUp_7 rfl (lv_at hl 3 rfl) ?_
      refine n_icmp_ge (tgt := 44) hx hb d_N_carryUp_8 (by decide) (by omega) (by omega) (fun h0 => ?_) (fun h0 => ?_)
      · have e9 : en = i := by omega
        subst e9
        refine lv_aload_n hx hb d_N_carryUp_44 rfl (lv_at hl 2 rfl) ?_
        refine lv_iload_n hx hb d_N_carryUp_45 rfl (lv_at hl 3 rfl) ?_
        rw [hv] at h2
        have c0 := cu_end h3 h1.1 h2 hv2
        have s2 : lm_ev b28 (nd f) en = (v : Int) := by rw [c0] at h2; omega
        refine wcV_v (As := [.int (nI en)]) hx hb hC hw (k_N_settle l T (va_up F x f) U K I O x k0 en v hi hU hk he (by rw [va_up_self]; exact h3) (fun j a1 a2 a3 => by rw [va_up_self, h4 j (by omega)]; exact hz j a1 a2 a3) (by rw [va_up_self]; exact s2)) lk_N_39 rfl rfl ⟨by show 0 + 1 ≤ R.frames; omega, by show 8 + (3 + 11) + 0 ≤ R.locals; omega⟩ (by omega) (we_Natural (by omega)) rfl rfl hl.1 rfl (Nat.le_of_ble_eq_true rfl) ⟨Nat.zero_le _, Nat.zero_le _⟩ d_N_carryUp_46 (fun H locs hw => ?_)
        rw [bx_uu] at hw
        exact hret _ _ _ _ hw d_N_carryUp_49
      · exact absurd h0 (by omega)
    | succ n ih =>
      intro i f cy ls H locs hn hle h1 h2 h3 h4 hl hw
      refine lv_iload hx hb d_N_carryUp_5 (lv_at hl 0 rfl) ?_
      refine lv_iload_n hx hb d_N_carryUp_7 rfl (lv_at hl 3 rfl) ?_
      refine n_icmp_ge (tgt := 44) hx hb d_N_carryUp_8 (by decide) (by omega) (by omega) (fun h0 => ?_) (fun h0 => ?_)
      · exact absurd h0 (by omega)
      · refine lv_lload_n hx hb d_N_carryUp_11 rfl (lv_at hl 1 rfl) ?_
        refine lv_aload_n hx hb d_N_carryUp_12 rfl (lv_at hl 2 rfl) ?_
        refine wg_Natural_limbs hx hb hC hw (by omega) bw_43 d_N_carryUp_13 ?_
        refine lv_iload hx hb d_N_carryUp_16 (lv_at hl 0 rfl) ?_
        refine wl_limbs hx hb hw (by omega) (by omega) d_N_carryUp_18 ?_
        refine sw_l (y := F x i) (by rw [va_up_self]; exact h4 i (Nat.le_refl i)) ?_
        refine lv_ladd hx hb d_N_carryUp_19 ?_
        refine lv_topl (fun t et => ?_)
        refine lv_lstore_n hx hb d_N_carryUp_20 rfl hl (by decide) rfl (fun ls hl => ?_)
        have hl : lv_has ls 5 [(2, .long t), (4, .int (nI i)), (0, .ref (wa T x)), (1, .int (nI en))] := hl
        refine lv_aload_n hx hb d_N_carryUp_21 rfl (lv_at hl 2 rfl) ?_
        refine wg_Natural_limbs hx hb hC hw (by omega) bw_43 d_N_carryUp_22 ?_
        refine lv_iload hx hb d_N_carryUp_25 (lv_at hl 1 rfl) ?_
        refine lv_lload_n hx hb d_N_carryUp_27 rfl (lv_at hl 0 rfl) ?_
        refine lv_ldc2 (v := 268435455) hx hb hC.ow (hC.hts bw_300) d_N_carryUp_28 ?_
        refine lv_land hx hb d_N_carryUp_31 ?_
        refine ws_limbs hx hb hw (by omega) (by omega) d_N_carryUp_32 (fun H locs hw => ?_)
        refine lv_lload_n hx hb d_N_carryUp_33 rfl (lv_at hl 0 rfl) ?_
        refine lv_bipush (v := nI 28) hx hb d_N_carryUp_34 (by decide +kernel) ?_
        refine lv_lshr hx hb d_N_carryUp_36 rfl ?_
        refine lv_lstore_n hx hb d_N_carryUp_37 rfl hl (by decide) rfl (fun ls hl => ?_)
        have hl : lv_has ls 5 [(2, .long (t >>> ((nI 28).toInt64 &&& 63))), (4, .int (nI i)), (0, .ref (wa T x)), (1, .int (nI en))] := hl
        refine lv_iinc (v := nI (i + 1)) hx hb d_N_carryUp_38 hl (k := 1) rfl (nI_add _ 1) (by decide) rfl (fun ls hl => ?_)
        have hl : lv_has ls 5 [(4, .int (nI (i + 1))), (2, .long (t >>> ((nI 28).toInt64 &&& 63))), (0, .ref (wa T x)), (1, .int (nI en))] := hl
        refine lv_goto (tgt := 5) hx hb d_N_carryUp_41 (by decide) ?_
        rw [bx_uu, va_up_self] at hw
        have q := cu_step h1 (hd i (by omega)) et h2
        exact ih (i + 1) _ _ ls H locs (by omega) (by omega) q.1 q.2 (pu_in h3) (fun j hj => by rw [pk_uLn (by omega)]; exact h4 j (by omega)) hl hw
  exact lp en 0 (F x) 0 ls _ _ (by omega) (by omega) (by decide +kernel) (by rw [lm_ev0, lj_0]; rfl) (fun j h => absurd h (by omega)) (fun _ _ => rfl) hl hw
end
section
/-! Natural: products and squares of numbers -/
theorem fD0 (j : Nat) : fD 0 j = 0 := by unfold fD; rw [Nat.zero_div, Nat.zero_mod]; decide +kernel
theorem nd_z {f : Nat → Int64} (h : ∀ j, f j = 0) : ∀ n, lm_ev b28 (nd f) n = 0
  | 0 => rfl
  | n + 1 => by rw [lm_evs, nd_z h n, nd_0 (h n)]; simp
theorem gaf_mul1 {g y : Int64} (hg : 0 ≤ g.toInt ∧ g.toInt < 268435456) (hy : 0 ≤ y.toInt ∧ y.toInt < 268435456) : 0 ≤ g.toInt * y.toInt ∧ g.toInt * y.toInt ≤ 72057594037927936 := by
  have h := lm_mulbd hg.1 hy.1 (show g.toInt ≤ 268435456 by omega) (show y.toInt ≤ 268435456 by omega)
  have e : (268435456 : Int) * 268435456 = 72057594037927936 := by decide
  rw [e] at h; exact h
theorem gaf_bd {to fr : Nat → Int64} {lf st n : Nat} {g : Int64} {M D : Int} (ht : ∀ j, j < 75 → 0 ≤ nd to j ∧ nd to j ≤ M) (hM : M ≤ 8000000000000000000) (hg : 0 ≤ g.toInt ∧ g.toInt ≤ 536870912) (hf : ∀ j, 0 ≤ nd fr j ∧ nd fr j < b28) (hD : ∀ j, g.toInt * nd fr j ≤ D) (hD0 : 0 ≤ D) : ∀ j, j < 75 → 0 ≤ nd (gaf to fr lf g st n) j ∧ nd (gaf to fr lf g st n) j ≤ M + D := by
  intro j hj
  have h1 := ht j hj
  by_cases e : lf + st ≤ j ∧ j < lf + st + n
  · have h2 : nd (gaf to fr lf g st n) j = nd to j + g.toInt * nd fr (j - lf) := by
      show (gaf to fr lf g st n j).toInt = _
      rw [gaf_in e.1 e.2]
      exact gaf_toInt ⟨h1.1, by have := h1.2; show nd to j ≤ _; omega⟩ hg (hf _)
    have h3 := hD (j - lf)
    have h4 : 0 ≤ g.toInt * nd fr (j - lf) := Int.mul_nonneg hg.1 (hf _).1
    rw [h2]; omega
  · have h2 : nd (gaf to fr lf g st n) j = nd to j := by unfold nd; rw [gaf_out (by omega)]
    rw [h2]; omega
theorem vB_mul {a b m n : Nat} (ha : a < vB ^ m) (hb : b < vB ^ n) : a * b < vB ^ (m + n) := by
  rw [Nat.pow_add]
  exact Nat.mul_lt_mul'' ha hb

set_option maxRecDepth 100000 in
set_option maxHeartbeats 4000000 in
theorem k_N_takeProduct (l : Launch) (T : wT) (V : Nat → Nat) (K : wUt) (I : wIt) (O : wOt) (x a b : Nat) (hi : x < 34) (ha : a < 34) (hb9 : b < 34) (hxa : a ≠ x) (hxb : b ≠ x) (hk : kD (V a) + kD (V b) ≤ 75) (hV : ∀ n, n < 34 → V n < vLim) : Met l y_N_takeProduct (.code y_N_takeProduct c_N_takeProduct 4 none :: bg) ({ frames := 2, cells := 0, slots := 0, locals := 46 } : Room) (mP T (fF V) (fU V) K I O [.ref (wa T x), .ref (wa T a), .ref (wa T b)]) (mQv T (fF (va_up V x (V a * V b))) (fU (va_up V x (V a * V b))) K I O) 0 0 (wA T) := by
  refine wM_v (by decide) (Nat.le_of_ble_eq_true rfl) ?_
  intro p e R s m args below meth c Q ls hx hb hC hRf hRl hret hl hw
  have hRf : 2 ≤ R.frames := hRf
  have hRl : 46 ≤ R.locals := hRl
  have hl : lv_has ls 4 [(0, .ref (wa T x)), (1, .ref (wa T a)), (2, .ref (wa T b))] := hl
  refine lv_aload_n hx hb d_N_takeProduct_0 rfl (lv_at hl 0 rfl) ?_
  refine wcV_v (As := []) hx hb hC hw (k_N_clear l T V K I O x hi hV) lk_N_48 rfl rfl ⟨by show 1 + 1 ≤ R.frames; omega, by show 8 + (1 + 11) + 22 ≤ R.locals; omega⟩ (by omega) (we_Natural (by omega)) rfl rfl hl.1 rfl (Nat.le_of_ble_eq_true rfl) ⟨Nat.zero_le _, Nat.zero_le _⟩ d_N_takeProduct_1 (fun H locs hw => ?_)
  have ua : fU (va_up V x 0) a = nI (kD (V a)) := by unfold fU; rw [va_up_ne _ _ hxa]; rfl
  have ub : fU (va_up V x 0) b = nI (kD (V b)) := by unfold fU; rw [va_up_ne _ _ hxb]; rfl
  have ux : fU (va_up V x 0) x = nI (kD 0) := by unfold fU; rw [va_up_self]; rfl
  have fa : ∀ f : Nat → Int64, va_up (fF (va_up V x 0)) x f a = fD (V a) := fun f => by rw [va_up_ne _ _ hxa]; unfold fF; rw [va_up_ne _ _ hxa]
  have fb : ∀ f : Nat → Int64, va_up (fF (va_up V x 0)) x f b = fD (V b) := fun f => by rw [va_up_ne _ _ hxb]; unfold fF; rw [va_up_ne _ _ hxb]
  have fx : ∀ j, fF (va_up V x 0) x j = 0 := fun j => by unfold fF; rw [va_up_self]; exact fD0 j
  refine lv_iconst (v := nI 0) hx hb d_N_takeProduct_4 (by decide +kernel) ?_
  refine lv_istore_n hx hb d_N_takeProduct_5 rfl hl (by decide) rfl (fun ls hl => ?_)
  have hl : lv_has ls 4 [(3, .int (nI 0)), (0, .ref (wa T x)), (1, .ref (wa T a)), (2, .ref (wa T b))] := hl
  rw [← va_upx (fF (va_up V x 0)) x] at hw
  have lp : ∀ (n i : Nat) (f : Nat → Int64) (ls : Array Slot) (H : Heap) (locs : List Loc), (kD (V a)) - i = n → i ≤ (kD (V a)) → (∀ j, j < 75 → 0 ≤ nd f j ∧ nd f j ≤ (i : Int) * 72057594037927936) → (lm_ev b28 (nd f) 75 = lm_ev b28 (nd (fD (V a))) i * (V b : Int)) → (∀ j, i + kD (V b) ≤ j → j < 75 → f j = 0) →  lv_has ls 4 [(3, .int (nI i)), (0, .ref (wa T x)), (1, .ref (wa T a)), (2, .ref (wa T b))] → wH T (va_up (fF (va_up V x 0)) x f) (fU (va_up V x 0)) K I O (wA T) s s.heap H locs → W p l e R s m args below meth c H locs 0 0 Q (F0 m 6 ls []) := by
    intro n
    induction n with
    | zero =>
      intro i f ls H locs hn hle h1 h2 h3 hl hw
      refine lv_iload_n hx hb d_N_takeProduct_6 rfl (lv_at hl 0 rfl) ?_
      refine lv_aload_n hx hb d_N_takeProduct_7 rfl (lv_at hl 2 rfl) ?_
      refine wg_Natural_used hx hb hC hw (by omega) bw_45 d_N_takeProduct_8 ?_
      refine sw_i (y := nI (kD (V a))) (ua) ?_
      refine n_icmp_ge (tgt := 33) hx hb d_N_takeProduct_11 (by decide) (by omega) (by omega) (fun h0 => ?_) (fun h0 => ?_)
      · have e9 : kD (V a) = i := by omega
        subst e9
        refine lv_aload_n hx hb d_N_takeProduct_33 rfl (lv_at hl 1 rfl) ?_
        refine lv_aload_n hx hb d_N_takeProduct_34 rfl (lv_at hl 2 rfl) ?_
        refine wg_Natural_used hx hb hC hw (by omega) bw_45 d_N_takeProduct_35 ?_
        refine sw_i (y := nI (kD (V a))) (ua) ?_
        refine lv_aload_n hx hb d_N_takeProduct_38 rfl (lv_at hl 3 rfl) ?_
        refine wg_Natural_used hx hb hC hw (by omega) bw_45 d_N_takeProduct_39 ?_
        refine sw_i (y := nI (kD (V b))) (ub) ?_
        refine n_iadd hx hb d_N_takeProduct_42 ?_
        have s1 : lm_ev b28 (nd f) (kD (V a) + kD (V b)) = ((V a * V b : Nat) : Int) := by
          rw [← lm_tail (n := 75) hk (fun j a1 a2 => nd_0 (h3 j a1 a2)), h2, fD_evI (hV a ha)]; simp
        refine wcV_v (As := [.int (nI ((kD (V a)) + (kD (V b))))]) hx hb hC hw (k_N_carryUp l T (va_up (fF (va_up V x 0)) x f) (fU (va_up V x 0)) K I O x (kD 0) (kD (V a) + kD (V b)) (V a * V b) hi ux (kD_le _) hk (fun j hj => by rw [va_up_self]; have := h1 j (by omega); have := kD_le (V a); omega) (fun j a1 a2 a3 => by rw [va_up_self]; exact h3 j a1 a3) (by rw [va_up_self]; exact s1) (vB_mul (kD_lt (hV a ha)) (kD_lt (hV b hb9)))) lk_N_55 rfl rfl ⟨by show 1 + 1 ≤ R.frames; omega, by show 8 + (5 + 11) + 22 ≤ R.locals; omega⟩ (by omega) (we_Natural (by omega)) rfl rfl hl.1 rfl (Nat.le_of_ble_eq_true rfl) ⟨Nat.zero_le _, Nat.zero_le _⟩ d_N_takeProduct_43 (fun H locs hw => ?_)
        rw [bx_uu, fF_up, fU_up, bx_uu] at hw
        exact hret _ _ _ _ hw d_N_takeProduct_46
      · exact absurd h0 (by omega)
    | succ n ih =>
      intro i f ls H locs hn hle h1 h2 h3 hl hw
      refine lv_iload_n hx hb d_N_takeProduct_6 rfl (lv_at hl 0 rfl) ?_
      refine lv_aload_n hx hb d_N_takeProduct_7 rfl (lv_at hl 2 rfl) ?_
      refine wg_Natural_used hx hb hC hw (by omega) bw_45 d_N_takeProduct_8 ?_
      refine sw_i (y := nI (kD (V a))) (ua) ?_
      refine n_icmp_ge (tgt := 33) hx hb d_N_takeProduct_11 (by decide) (by omega) (by omega) (fun h0 => ?_) (fun h0 => ?_)
      · exact absurd h0 (by omega)
      · refine lv_aload_n hx hb d_N_takeProduct_14 rfl (lv_at hl 1 rfl) ?_
        refine lv_aload_n hx hb d_N_takeProduct_15 rfl (lv_at hl 3 rfl) ?_
        refine lv_iconst (v := nI 0) hx hb d_N_takeProduct_16 (by decide +kernel) ?_
        refine lv_iload_n hx hb d_N_takeProduct_17 rfl (lv_at hl 0 rfl) ?_
        refine lv_aload_n hx hb d_N_takeProduct_18 rfl (lv_at hl 2 rfl) ?_
        refine wg_Natural_limbs hx hb hC hw (by omega) bw_43 d_N_takeProduct_19 ?_
        refine lv_iload_n hx hb d_N_takeProduct_22 rfl (lv_at hl 0 rfl) ?_
        refine wl_limbs hx hb hw (by omega) (by omega) d_N_takeProduct_23 ?_
        refine sw_l (y := fD (V a) i) (by rw [fa]) ?_
        refine wcV_v (As := [.ref (wa T b), .int (nI 0), .int (nI i), .long (fD (V a) i)]) hx hb hC hw (k_N_gather l T (va_up (fF (va_up V x 0)) x f) (fU (va_up V x 0)) K I O x b 0 i (kD (V b)) (fD (V a) i) hi hb9 hxb ub (Nat.zero_le _) (by omega)) lk_N_51 rfl rfl ⟨by show 0 + 1 ≤ R.frames; omega, by show 8 + (10 + 11) + 0 ≤ R.locals; omega⟩ (by omega) (we_Natural (by omega)) rfl rfl hl.1 rfl (Nat.le_of_ble_eq_true rfl) ⟨Nat.zero_le _, Nat.zero_le _⟩ d_N_takeProduct_24 (fun H locs hw => ?_)
        rw [bx_uu, va_up_self, fb, Nat.sub_zero] at hw
        refine lv_iinc (v := nI (i + 1)) hx hb d_N_takeProduct_27 hl (k := 0) rfl (nI_add _ 1) (by decide) rfl (fun ls hl => ?_)
        have hl : lv_has ls 4 [(3, .int (nI (i + 1))), (0, .ref (wa T x)), (1, .ref (wa T a)), (2, .ref (wa T b))] := hl
        refine lv_goto (tgt := 6) hx hb d_N_takeProduct_30 (by decide) ?_
        have g1 : 0 ≤ (fD (V a) i).toInt ∧ (fD (V a) i).toInt < 268435456 := fD_in (V a) i
        have q1 := gaf_bd (to := f) (fr := fD (V b)) (lf := i) (st := 0) (n := kD (V b)) (g := fD (V a) i) (D := 72057594037927936) h1 (by have := kD_le (V a); omega) ⟨g1.1, by omega⟩ (fD_in (V b)) (fun j => (gaf_mul1 g1 (fD_in (V b) j)).2) (by decide)
        have q2 := gaf_ev (to := f) (fr := fD (V b)) (lf := i) (g := fD (V a) i) (st := 0) (N := 75) (fun j hj => ⟨(h1 j hj).1, by have := (h1 j hj).2; have := kD_le (V a); omega⟩) ⟨g1.1, by omega⟩ (fD_in (V b)) (n := kD (V b)) (by omega)
        refine ih (i + 1) _ ls H locs (by omega) (by omega) (fun j hj => ?_) ?_ (fun j a1 a2 => ?_) hl hw
        · have := q1 j hj; omega
        · rw [q2, h2, Nat.zero_add, fD_evI (hV b hb9), lm_ev0, lm_evs]
          show _ + nd (fD (V a)) i * b28 ^ i * _ = _
          grind
        · rw [gaf_out (by omega)]; exact h3 j (by omega) a2
  exact lp (kD (V a)) 0 _ ls _ _ (by omega) (by omega) (fun j _ => by rw [nd_0 (fx j)]; omega) (by rw [nd_z fx, lm_ev0]; simp) (fun j _ _ => fx j) hl hw
set_option maxRecDepth 100000 in
set_option maxHeartbeats 4000000 in
theorem k_N_takeSquare (l : Launch) (T : wT) (V : Nat → Nat) (K : wUt) (I : wIt) (O : wOt) (x a : Nat) (hi : x < 34) (ha : a < 34) (hxa : a ≠ x) (hk : 2 * kD (V a) ≤ 75) (hV : ∀ n, n < 34 → V n < vLim) : Met l y_N_takeSquare (.code y_N_takeSquare c_N_takeSquare 3 none :: bg) ({ frames := 2, cells := 0, slots := 0, locals := 46 } : Room) (mP T (fF V) (fU V) K I O [.ref (wa T x), .ref (wa T a)]) (mQv T (fF (va_up V x (V a * V a))) (fU (va_up V x (V a * V a))) K I O) 0 0 (wA T) := by
  refine wM_v (by decide) (Nat.le_of_ble_eq_true rfl) ?_
  intro p e R s m args below meth c Q ls hx hb hC hRf hRl hret hl hw
  have hRf : 2 ≤ R.frames := hRf
  have hRl : 46 ≤ R.locals := hRl
  have hl : lv_has ls 3 [(0, .ref (wa T x)), (1, .ref (wa T a))] := hl
  refine lv_aload_n hx hb d_N_takeSquare_0 rfl (lv_at hl 0 rfl) ?_
  refine wcV_v (As := []) hx hb hC hw (k_N_clear l T V K I O x hi hV) lk_N_48 rfl rfl ⟨by show 1 + 1 ≤ R.frames; omega, by show 8 + (1 + 11) + 22 ≤ R.locals; omega⟩ (by omega) (we_Natural (by omega)) rfl rfl hl.1 rfl (Nat.le_of_ble_eq_true rfl) ⟨Nat.zero_le _, Nat.zero_le _⟩ d_N_takeSquare_1 (fun H locs hw => ?_)
  have ua : fU (va_up V x 0) a = nI (kD (V a)) := by unfold fU; rw [va_up_ne _ _ hxa]; rfl
  have ux : fU (va_up V x 0) x = nI (kD 0) := by unfold fU; rw [va_up_self]; rfl
  have fa : ∀ f : Nat → Int64, va_up (fF (va_up V x 0)) x f a = fD (V a) := fun f => by rw [va_up_ne _ _ hxa]; unfold fF; rw [va_up_ne _ _ hxa]
  have fx : ∀ j, fF (va_up V x 0) x j = 0 := fun j => by unfold fF; rw [va_up_self]; exact fD0 j
  refine lv_iconst (v := nI 0) hx hb d_N_takeSquare_4 (by decide +kernel) ?_
  refine lv_istore_n hx hb d_N_takeSquare_5 rfl hl (by decide) rfl (fun ls hl => ?_)
  have hl : lv_has ls 3 [(2, .int (nI 0)), (0, .ref (wa T x)), (1, .ref (wa T a))] := hl
  rw [← va_upx (fF (va_up V x 0)) x] at hw
  have lp : ∀ (n i : Nat) (f : Nat → Int64) (ls : Array Slot) (H : Heap) (locs : List Loc), (kD (V a)) - i = n → i ≤ (kD (V a)) → (∀ j, j < 75 → 0 ≤ nd f j ∧ nd f j ≤ (i : Int) * 144115188075855872) → (lm_ev b28 (nd f) 75 = (V a : Int) * (V a : Int) - ((V a : Int) - lm_ev b28 (nd (fD (V a))) i) * ((V a : Int) - lm_ev b28 (nd (fD (V a))) i)) → (∀ j, i + kD (V a) ≤ j → j < 75 → f j = 0) →  lv_has ls 3 [(2, .int (nI i)), (0, .ref (wa T x)), (1, .ref (wa T a))] → wH T (va_up (fF (va_up V x 0)) x f) (fU (va_up V x 0)) K I O (wA T) s s.heap H locs → W p l e R s m args below meth c H locs 0 0 Q (F0 m 6 ls []) := by
    intro n
    induction n with
    | zero =>
      intro i f ls H locs hn hle h1 h2 h3 hl hw
      refine lv_iload_n hx hb d_N_takeSquare_6 rfl (lv_at hl 0 rfl) ?_
      refine lv_aload_n hx hb d_N_takeSquare_7 rfl (lv_at hl 2 rfl) ?_
      refine wg_Natural_used hx hb hC hw (by omega) bw_45 d_N_takeSquare_8 ?_
      refine sw_i (y := nI (kD (V a))) (ua) ?_
      refine n_icmp_ge (tgt := 63) hx hb d_N_takeSquare_11 (by decide) (by omega) (by omega) (fun h0 => ?_) (fun h0 => ?_)
      · have e9 : kD (V a) = i := by omega
        subst e9
        refine lv_aload_n hx hb d_N_takeSquare_63 rfl (lv_at hl 1 rfl) ?_
        refine lv_iconst (v := nI 2) hx hb d_N_takeSquare_64 (by decide +kernel) ?_
        refine lv_aload_n hx hb d_N_takeSquare_65 rfl (lv_at hl 2 rfl) ?_
        refine wg_Natural_used hx hb hC hw (by omega) bw_45 d_N_takeSquare_66 ?_
        refine sw_i (y := nI (kD (V a))) (ua) ?_
        refine n_imul hx hb d_N_takeSquare_69 ?_
        have s1 : lm_ev b28 (nd f) (2 * kD (V a)) = ((V a * V a : Nat) : Int) := by
          rw [← lm_tail (n := 75) hk (fun j a1 a2 => nd_0 (h3 j (by omega) a2)), h2, fD_evI (hV a ha)]; simp
        refine wcV_v (As := [.int (nI (2 * (kD (V a))))]) hx hb hC hw (k_N_carryUp l T (va_up (fF (va_up V x 0)) x f) (fU (va_up V x 0)) K I O x (kD 0) (2 * kD (V a)) (V a * V a) hi ux (kD_le _) hk (fun j hj => by rw [va_up_self]; have := h1 j (by omega); omega) (fun j a1 a2 a3 => by rw [va_up_self]; exact h3 j (by omega) a3) (by rw [va_up_self]; exact s1) (by rw [Nat.two_mul]; exact vB_mul (kD_lt (hV a ha)) (kD_lt (hV a ha)))) lk_N_55 rfl rfl ⟨by show 1 + 1 ≤ R.frames; omega, by show 8 + (5 + 11) + 22 ≤ R.locals; omega⟩ (by omega) (we_Natural (by omega)) rfl rfl hl.1 rfl (Nat.le_of_ble_eq_true rfl) ⟨Nat.zero_le _, Nat.zero_le _⟩ d_N_takeSquare_70 (fun H locs hw => ?_)
        rw [bx_uu, fF_up, fU_up, bx_uu] at hw
        exact hret _ _ _ _ hw d_N_takeSquare_73
      · exact absurd h0 (by omega)
    | succ n ih =>
      intro i f ls H locs hn hle h1 h2 h3 hl hw
      refine lv_iload_n hx hb d_N_takeSquare_6 rfl (lv_at hl 0 rfl) ?_
      refine lv_aload_n hx hb d_N_takeSquare_7 rfl (lv_at hl 2 rfl) ?_
      refine wg_Natural_used hx hb hC hw (by omega) bw_45 d_N_takeSquare_8 ?_
      refine sw_i (y := nI (kD (V a))) (ua) ?_
      refine n_icmp_ge (tgt := 63) hx hb d_N_takeSquare_11 (by decide) (by omega) (by omega) (fun h0 => ?_) (fun h0 => ?_)
      · exact absurd h0 (by omega)
      · refine lv_aload_n hx hb d_N_takeSquare_14 rfl (lv_at hl 1 rfl) ?_
        refine wg_Natural_limbs hx hb hC hw (by omega) bw_43 d_N_takeSquare_15 ?_
        refine lv_iconst (v := nI 2) hx hb d_N_takeSquare_18 (by decide +kernel) ?_
        refine lv_iload_n hx hb d_N_takeSquare_19 rfl (lv_at hl 0 rfl) ?_
        refine n_imul hx hb d_N_takeSquare_20 ?_
        refine lv_dup2_11 hx hb d_N_takeSquare_21 rfl rfl ?_
        refine wl_limbs hx hb hw (by omega) (by omega) d_N_takeSquare_22 ?_
        refine sw_l (y := f (2 * i)) (by rw [va_up_self]) ?_
        refine lv_aload_n hx hb d_N_takeSquare_23 rfl (lv_at hl 2 rfl) ?_
        refine wg_Natural_limbs hx hb hC hw (by omega) bw_43 d_N_takeSquare_24 ?_
        refine lv_iload_n hx hb d_N_takeSquare_27 rfl (lv_at hl 0 rfl) ?_
        refine wl_limbs hx hb hw (by omega) (by omega) d_N_takeSquare_28 ?_
        refine sw_l (y := fD (V a) i) (by rw [fa]) ?_
        refine lv_aload_n hx hb d_N_takeSquare_29 rfl (lv_at hl 2 rfl) ?_
        refine wg_Natural_limbs hx hb hC hw (by omega) bw_43 d_N_takeSquare_30 ?_
        refine lv_iload_n hx hb d_N_takeSquare_33 rfl (lv_at hl 0 rfl) ?_
        refine wl_limbs hx hb hw (by omega) (by omega) d_N_takeSquare_34 ?_
        refine sw_l (y := fD (V a) i) (by rw [fa]) ?_
        refine lv_lmul hx hb d_N_takeSquare_35 ?_
        refine lv_ladd hx hb d_N_takeSquare_36 ?_
        refine ws_limbs hx hb hw (by omega) (by omega) d_N_takeSquare_37 (fun H locs hw => ?_)
        rw [bx_uu, va_up_self] at hw
        generalize hf2 : vp_updL f (2 * i) (f (2 * i) + fD (V a) i * fD (V a) i) = f2 at hw
        refine lv_aload_n hx hb d_N_takeSquare_38 rfl (lv_at hl 1 rfl) ?_
        refine lv_aload_n hx hb d_N_takeSquare_39 rfl (lv_at hl 2 rfl) ?_
        refine lv_iload_n hx hb d_N_takeSquare_40 rfl (lv_at hl 0 rfl) ?_
        refine lv_iconst (v := nI 1) hx hb d_N_takeSquare_41 (by decide +kernel) ?_
        refine n_iadd hx hb d_N_takeSquare_42 ?_
        refine lv_iload_n hx hb d_N_takeSquare_43 rfl (lv_at hl 0 rfl) ?_
        refine lv_ldc2 (v := 2) hx hb hC.ow (hC.hts bw_572) d_N_takeSquare_44 ?_
        refine lv_aload_n hx hb d_N_takeSquare_47 rfl (lv_at hl 2 rfl) ?_
        refine wg_Natural_limbs hx hb hC hw (by omega) bw_43 d_N_takeSquare_48 ?_
        refine lv_iload_n hx hb d_N_takeSquare_51 rfl (lv_at hl 0 rfl) ?_
        refine wl_limbs hx hb hw (by omega) (by omega) d_N_takeSquare_52 ?_
        refine sw_l (y := fD (V a) i) (by rw [fa]) ?_
        refine lv_lmul hx hb d_N_takeSquare_53 ?_
        refine sw_l (y := (2 : Int64) * fD (V a) i) rfl ?_
        refine wcV_v (As := [.ref (wa T a), .int (nI (i + 1)), .int (nI i), .long ((2 : Int64) * fD (V a) i)]) hx hb hC hw (k_N_gather l T (va_up (fF (va_up V x 0)) x f2) (fU (va_up V x 0)) K I O x a (i + 1) i (kD (V a)) ((2 : Int64) * fD (V a) i) hi ha hxa ua (by omega) (by omega)) lk_N_51 rfl rfl ⟨by show 0 + 1 ≤ R.frames; omega, by show 8 + (10 + 11) + 0 ≤ R.locals; omega⟩ (by omega) (we_Natural (by omega)) rfl rfl hl.1 rfl (Nat.le_of_ble_eq_true rfl) ⟨Nat.zero_le _, Nat.zero_le _⟩ d_N_takeSquare_54 (fun H locs hw => ?_)
        rw [bx_uu, va_up_self, fa] at hw
        refine lv_iinc (v := nI (i + 1)) hx hb d_N_takeSquare_57 hl (k := 0) rfl (nI_add _ 1) (by decide) rfl (fun ls hl => ?_)
        have hl : lv_has ls 3 [(2, .int (nI (i + 1))), (0, .ref (wa T x)), (1, .ref (wa T a))] := hl
        refine lv_goto (tgt := 6) hx hb d_N_takeSquare_60 (by decide) ?_
        have g1 : 0 ≤ (fD (V a) i).toInt ∧ (fD (V a) i).toInt < 268435456 := fD_in (V a) i
        have g2 : ((2 : Int64) * fD (V a) i).toInt = 2 * (fD (V a) i).toInt := by
          have e2 : (2 : Int64).toInt = 2 := by decide +kernel
          rw [lj_mul (by rw [e2]; omega) (by rw [e2]; omega), e2]
        have g3 := gaf_mul1 g1 g1
        have m1 : (f (2 * i) + fD (V a) i * fD (V a) i).toInt = nd f (2 * i) + (fD (V a) i).toInt * (fD (V a) i).toInt := gaf_toInt ⟨(h1 _ (by omega)).1, by have := (h1 (2 * i) (by omega)).2; show nd f (2 * i) ≤ _; omega⟩ ⟨g1.1, by omega⟩ g1
        have h1b : ∀ j, j < 75 → 0 ≤ nd f2 j ∧ nd f2 j ≤ (i : Int) * 144115188075855872 + 72057594037927936 := fun j hj => by
          have h9 := h1 j hj
          rw [← hf2]
          by_cases ej : j = 2 * i
          · rw [ej, nd_upd, m1, ← ej]; omega
          · rw [nd_updN ej]; omega
        have h1c : ∀ j, j < 75 → (j < i + (i + 1) ∨ i + (i + 1) + (kD (V a) - (i + 1)) ≤ j) ∨ nd f2 j = nd f j := fun j hj => by
          by_cases ej : j = 2 * i
          · exact Or.inl (Or.inl (by omega))
          · exact Or.inr (by rw [← hf2, nd_updN ej])
        have q2 := gaf_ev (to := f2) (fr := fD (V a)) (lf := i) (g := (2 : Int64) * fD (V a) i) (st := i + 1) (N := 75) (fun j hj => ⟨(h1b j hj).1, by have := (h1b j hj).2; omega⟩) (by rw [g2]; omega) (fD_in (V a)) (n := kD (V a) - (i + 1)) (by omega)
        refine ih (i + 1) _ ls H locs (by omega) (by omega) (fun j hj => ?_) ?_ (fun j a1 a2 => ?_) hl hw
        · by_cases ej : i + (i + 1) ≤ j ∧ j < i + (i + 1) + (kD (V a) - (i + 1))
          · have e5 : nd f2 j = nd f j := by rcases h1c j hj with h9 | h9; · omega
                                             · exact h9
            have e6 : nd (gaf f2 (fD (V a)) i ((2 : Int64) * fD (V a) i) (i + 1) (kD (V a) - (i + 1))) j = nd f2 j + ((2 : Int64) * fD (V a) i).toInt * nd (fD (V a)) (j - i) := by
              show (gaf _ _ _ _ _ _ j).toInt = _
              rw [gaf_in ej.1 ej.2]
              exact gaf_toInt ⟨(h1b j hj).1, by have := (h1b j hj).2; show nd f2 j ≤ _; omega⟩ (by rw [g2]; omega) (fD_in (V a) (j - i))
            have e7 := gaf_mul1 g1 (fD_in (V a) (j - i))
            have e8 : (2 * (fD (V a) i).toInt) * nd (fD (V a)) (j - i) = 2 * ((fD (V a) i).toInt * nd (fD (V a)) (j - i)) := by grind
            have e9 := h1 j hj
            have e7b : 0 ≤ (fD (V a) i).toInt * nd (fD (V a)) (j - i) ∧ (fD (V a) i).toInt * nd (fD (V a)) (j - i) ≤ 72057594037927936 := e7
            rw [e6, e5, g2, e8]; omega
          · have e6 : nd (gaf f2 (fD (V a)) i ((2 : Int64) * fD (V a) i) (i + 1) (kD (V a) - (i + 1))) j = nd f2 j := by unfold nd; rw [gaf_out (by omega)]
            have e9 := h1b j hj
            rw [e6]; omega
        · have e3 : i + 1 + (kD (V a) - (i + 1)) = kD (V a) := by omega
          have e4 : lm_ev b28 (nd f2) 75 = lm_ev b28 (nd f) 75 + (nd (fD (V a)) i * nd (fD (V a)) i) * b28 ^ (2 * i) := by
            rw [← hf2, nd_upd_ev (by omega), m1]
            show _ + (nd f (2 * i) + nd (fD (V a)) i * nd (fD (V a)) i - nd f (2 * i)) * _ = _
            grind
          rw [q2, e4, e3, h2, g2, fD_evI (hV a ha), lm_evs, Nat.two_mul, Int.pow_add]
          show _ + 2 * nd (fD (V a)) i * _ * _ = _
          grind
        · rw [gaf_out (by omega), ← hf2, pk_uLn (by omega)]; exact h3 j (by omega) a2
  exact lp (kD (V a)) 0 _ ls _ _ (by omega) (by omega) (fun j _ => by rw [nd_0 (fx j)]; omega) (by rw [nd_z fx, lm_ev0]; grind) (fun j _ _ => fx j) hl hw
end
section
/-! Natural: order, increase, digits in a radix -/
theorem lN_ne0 {n : Nat} (h0 : 0 < n) (h : n < 9223372036854775808) : ¬ lN n = 0 := fun q => by
  have q2 : lN n = lN 0 := q
  rw [pk_lEQ (by omega) (by omega)] at q2
  omega
theorem pd_a {a rx B : Nat} (hr : 0 < rx) (hB : 0 < B) : (a / B % rx * B + a % B) / rx = a / rx % B ∧ (a / B % rx * B + a % B) % rx = a % rx := by
  have e1 := Nat.div_add_mod a B
  have e2 := Nat.div_add_mod (a / B) rx
  have h1 := Nat.mod_lt (a / B) hr
  have h2 := Nat.mod_lt a hB
  have h3 : a / B % rx * B + a % B < B * rx := by
    have : (a / B % rx + 1) * B ≤ rx * B := Nat.mul_le_mul_right B h1
    have e3 : (a / B % rx + 1) * B = a / B % rx * B + B := by rw [Nat.add_mul, Nat.one_mul]
    rw [Nat.mul_comm B rx]; omega
  have e4 : a = (a / B % rx * B + a % B) + rx * (a / B / rx * B) := by
    have e5 : B * (a / B) = B * (rx * (a / B / rx) + a / B % rx) := by rw [e2]
    have e6 : B * (rx * (a / B / rx) + a / B % rx) = rx * (a / B / rx * B) + a / B % rx * B := by grind
    omega
  constructor
  · have e7 : a / rx = (a / B % rx * B + a % B) / rx + a / B / rx * B := by
      conv => lhs; rw [e4]
      rw [Nat.add_mul_div_left _ _ hr]
    rw [e7, Nat.add_mul_mod_self_right]
    exact (Nat.mod_eq_of_lt (Nat.div_lt_of_lt_mul (by rw [Nat.mul_comm rx B]; exact h3))).symm
  · conv => rhs; rw [e4]
    rw [Nat.add_mul_mod_self_left]
theorem pd_q (v rx r : Nat) (hr : 0 < rx) : (v / vB ^ (r + 1) % rx * vB + v / vB ^ r % vB) / rx = v / rx / vB ^ r % vB := by
  have e : v / vB ^ (r + 1) = v / vB ^ r / vB := by rw [Nat.pow_succ, Nat.div_div_eq_div_mul]
  rw [e, (pd_a hr vB_pos).1, Nat.div_div_eq_div_mul, Nat.div_div_eq_div_mul, Nat.mul_comm]
theorem pd_r (v rx r : Nat) (hr : 0 < rx) : (v / vB ^ (r + 1) % rx * vB + v / vB ^ r % vB) % rx = v / vB ^ r % rx := by
  have e : v / vB ^ (r + 1) = v / vB ^ r / vB := by rw [Nat.pow_succ, Nat.div_div_eq_div_mul]
  rw [e, (pd_a hr vB_pos).2]
theorem pd_h {v rx r : Nat} (hr : rx ≤ 36) (h0 : 0 < rx) : v / vB ^ (r + 1) % rx * vB + v / vB ^ r % vB < 9223372036854775808 := by
  have h1 := Nat.mod_lt (v / vB ^ (r + 1)) h0
  have h2 := Nat.mod_lt (v / vB ^ r) vB_pos
  have e : vB = 268435456 := rfl
  rw [e] at h2 ⊢
  have : v / 268435456 ^ (r + 1) % rx < rx := h1
  omega
theorem ps_step {f : Nat → Int64} {i rx : Nat} {c d t : Int64} {S : Int} (hr : 2 ≤ rx ∧ rx ≤ 36) (hc : 0 ≤ c.toInt ∧ c.toInt ≤ 36) (hd : 0 ≤ d.toInt ∧ d.toInt < 268435456) (ht : t = c + d * lN rx) (h : lm_ev b28 (nd f) i + c.toInt * b28 ^ i = S) :
    (0 ≤ (t >>> ((nI 28).toInt64 &&& 63)).toInt ∧ (t >>> ((nI 28).toInt64 &&& 63)).toInt ≤ 36) ∧ lm_ev b28 (nd (vp_updL f i (t &&& 268435455))) (i + 1) + (t >>> ((nI 28).toInt64 &&& 63)).toInt * b28 ^ (i + 1) = S + (d.toInt * rx) * b28 ^ i := by
  have er : (lN rx).toInt = (rx : Int) := lj_lN (by omega)
  have hm := lm_mulbd hd.1 (show (0 : Int) ≤ (rx : Int) by omega) (show d.toInt ≤ 268435455 by omega) (show (rx : Int) ≤ 36 by omega)
  have e0 : (d * lN rx).toInt = d.toInt * rx := by rw [lj_mul (by rw [er]; omega) (by rw [er]; omega), er]
  have e2 : t.toInt = c.toInt + d.toInt * rx := by rw [ht, lj_add (by rw [e0]; omega) (by rw [e0]; omega), e0]
  refine ⟨?_, nd_carry e2 h⟩
  have e3 : (t >>> ((nI 28).toInt64 &&& 63)).toInt = t.toInt / 268435456 := lj_shr28 t
  rw [e3, e2]; omega
theorem i64_mask : (268435455 : Int64).toInt = 268435455 := by decide +kernel

set_option maxRecDepth 100000 in
set_option maxHeartbeats 4000000 in
theorem k_N_isOne (l : Launch) (T : wT) (V : Nat → Nat) (K : wUt) (I : wIt) (O : wOt) (x : Nat) (hi : x < 34) (hV : ∀ n, n < 34 → V n < vLim) : Met l y_N_isOne (.code y_N_isOne c_N_isOne 1 (some .boolean) :: bg) ({ frames := 0, cells := 0, slots := 0, locals := 0 } : Room) (mP T (fF V) (fU V) K I O [.ref (wa T x)]) (mQi T (if V x = 1 then (1 : Int32) else 0) (fF V) (fU V) K I O) 0 0 (wA T) := by
  refine wM_z (by decide) (Nat.le_of_ble_eq_true rfl) (zN _) ?_
  intro p e R s m args below meth c Q ls hx hb hC hRf hRl hret hl hw
  have hRf : 0 ≤ R.frames := hRf
  have hRl : 0 ≤ R.locals := hRl
  have hl : lv_has ls 1 [(0, .ref (wa T x))] := hl
  have h1 := kD_le (V x)
  refine lv_aload_n hx hb d_N_isOne_0 rfl (lv_at hl 0 rfl) ?_
  refine wg_Natural_used hx hb hC hw (by omega) bw_45 d_N_isOne_1 ?_
  refine sw_i (y := nI (kD (V x))) (rfl) ?_
  refine lv_iconst (v := nI 1) hx hb d_N_isOne_4 (by decide +kernel) ?_
  refine n_icmp_ne (tgt := 23) hx hb d_N_isOne_5 (by decide) (by omega) (by omega) (fun h => ?_) (fun h => ?_)
  · refine lv_iconst (v := nI 0) hx hb d_N_isOne_23 (by decide +kernel) ?_
    refine sw_i (y := (if V x = 1 then (1 : Int32) else 0)) (by rw [if_neg (fun q => h (by rw [q]; decide +kernel))]; rfl) ?_
    exact hret _ _ _ _ hw d_N_isOne_24
  · have h2 : lm_ev b28 (nd (fD (V x))) 1 = (V x : Int) := by rw [← h]; exact fD_evI (hV x hi)
    have h3 : nd (fD (V x)) 0 = (V x : Int) := by rw [← h2]; simp [lm_ev]
    refine lv_aload_n hx hb d_N_isOne_8 rfl (lv_at hl 0 rfl) ?_
    refine wg_Natural_limbs hx hb hC hw (by omega) bw_43 d_N_isOne_9 ?_
    refine lv_iconst (v := nI 0) hx hb d_N_isOne_12 (by decide +kernel) ?_
    refine wl_limbs hx hb hw (by omega) (by omega) d_N_isOne_13 ?_
    refine lv_lconst (v := 1) hx hb d_N_isOne_14 (by decide +kernel) ?_
    refine lc_ne (tgt := 23) hx hb d_N_isOne_15 d_N_isOne_16 (by decide) (fun h8 => ?_) (fun h8 => ?_)
    · refine lv_iconst (v := nI 0) hx hb d_N_isOne_23 (by decide +kernel) ?_
      refine sw_i (y := (if V x = 1 then (1 : Int32) else 0)) (by rw [if_neg (fun q => h8 (by show nd (fD (V x)) 0 = _; rw [h3, q]; decide +kernel))]; rfl) ?_
      exact hret _ _ _ _ hw d_N_isOne_24
    · refine lv_iconst (v := nI 1) hx hb d_N_isOne_19 (by decide +kernel) ?_
      refine lv_goto (tgt := 24) hx hb d_N_isOne_20 (by decide) ?_
      refine sw_i (y := (if V x = 1 then (1 : Int32) else 0)) (by rw [if_pos (by have h9 : nd (fD (V x)) 0 = (1 : Int64).toInt := h8; rw [h3, lj_1] at h9; omega)]; rfl) ?_
      exact hret _ _ _ _ hw d_N_isOne_24
set_option maxRecDepth 100000 in
set_option maxHeartbeats 4000000 in
theorem k_N_order (l : Launch) (T : wT) (V : Nat → Nat) (K : wUt) (I : wIt) (O : wOt) (x y : Nat) (hi : x < 34) (hy9 : y < 34) (hV : ∀ n, n < 34 → V n < vLim) : Met l y_N_order (.code y_N_order c_N_order 3 (some .int) :: bg) ({ frames := 0, cells := 0, slots := 0, locals := 0 } : Room) (mP T (fF V) (fU V) K I O [.ref (wa T x), .ref (wa T y)]) (mQi T (if V x < V y then (-1 : Int32) else if V x = V y then 0 else 1) (fF V) (fU V) K I O) 0 0 (wA T) := by
  refine wM_i (by decide) (Nat.le_of_ble_eq_true rfl) ?_
  intro p e R s m args below meth c Q ls hx hb hC hRf hRl hret hl hw
  have hRf : 0 ≤ R.frames := hRf
  have hRl : 0 ≤ R.locals := hRl
  have hl : lv_has ls 3 [(0, .ref (wa T x)), (1, .ref (wa T y))] := hl
  have h1 := kD_le (V x)
  have h2 := kD_le (V y)
  refine lv_aload_n hx hb d_N_order_0 rfl (lv_at hl 0 rfl) ?_
  refine wg_Natural_used hx hb hC hw (by omega) bw_45 d_N_order_1 ?_
  refine sw_i (y := nI (kD (V x))) (rfl) ?_
  refine lv_aload_n hx hb d_N_order_4 rfl (lv_at hl 1 rfl) ?_
  refine wg_Natural_used hx hb hC hw (by omega) bw_45 d_N_order_5 ?_
  refine sw_i (y := nI (kD (V y))) (rfl) ?_
  refine n_icmp_eq (tgt := 28) hx hb d_N_order_8 (by decide) (by omega) (by omega) (fun h => ?_) (fun h => ?_)
  · refine lv_aload_n hx hb d_N_order_28 rfl (lv_at hl 0 rfl) ?_
    refine wg_Natural_used hx hb hC hw (by omega) bw_45 d_N_order_29 ?_
    refine sw_i (y := nI (kD (V x))) (rfl) ?_
    refine lv_iconst (v := nI 1) hx hb d_N_order_32 (by decide +kernel) ?_
    refine lv_isub hx hb d_N_order_33 ?_
    refine sw_i (y := (nI (kD (V x)) - 1)) (rfl) ?_
    refine lv_istore_n hx hb d_N_order_34 rfl hl (by decide) rfl (fun ls hl => ?_)
    have hl : lv_has ls 3 [(2, .int (nI (kD (V x)) - 1)), (0, .ref (wa T x)), (1, .ref (wa T y))] := hl
    have vx := fD_evI (hV x hi)
    have vy := fD_evI (hV y hy9)
    rw [← h] at vy
    have lp : ∀ (q : Nat)  (ls : Array Slot) (H : Heap) (locs : List Loc), (∀ j, q ≤ j → j < kD (V x) → fD (V x) j = fD (V y) j) → (q ≤ kD (V x)) →  lv_has ls 3 [(2, .int (nI q - 1)), (0, .ref (wa T x)), (1, .ref (wa T y))] → wH T (fF V) (fU V) K I O (wA T) s s.heap H locs → W p l e R s m args below meth c H locs 0 0 Q (F0 m 35 ls []) := by
      intro q
      induction q with
      | zero =>
        intro  ls H locs h1 h2 hl hw
        refine lv_iload_n hx hb d_N_order_35 rfl (lv_at hl 0 rfl) ?_
        refine d_if_lt (tgt := 83) hx hb d_N_order_36 (by decide) (by omega) (fun h0 => ?_) (fun h0 => ?_)
        · refine lv_iconst (v := nI 0) hx hb d_N_order_83 (by decide +kernel) ?_
          have e9 : V x = V y := by
            have : (V x : Int) = V y := by rw [← vx, ← vy]; exact lm_congr (fun j hj => by unfold nd; rw [h1 j (by omega) hj])
            omega
          refine sw_i (y := (if V x < V y then (-1 : Int32) else if V x = V y then 0 else 1)) (by rw [if_neg (by omega), if_pos e9]; rfl) ?_
          exact hret _ _ _ _ hw d_N_order_84
        · exact absurd h0 (by omega)
      | succ q ih =>
        intro  ls H locs h1 h2 hl hw
        rw [nI_pred] at hl
        have hl : lv_has ls 3 [(2, .int (nI q)), (0, .ref (wa T x)), (1, .ref (wa T y))] := hl
        refine lv_iload_n hx hb d_N_order_35 rfl (lv_at hl 0 rfl) ?_
        refine n_if_lt hx hb d_N_order_36 (by decide) (by omega) ?_
        refine lv_aload_n hx hb d_N_order_39 rfl (lv_at hl 1 rfl) ?_
        refine wg_Natural_limbs hx hb hC hw (by omega) bw_43 d_N_order_40 ?_
        refine lv_iload_n hx hb d_N_order_43 rfl (lv_at hl 0 rfl) ?_
        refine wl_limbs hx hb hw (by omega) (by omega) d_N_order_44 ?_
        refine lv_aload_n hx hb d_N_order_45 rfl (lv_at hl 2 rfl) ?_
        refine wg_Natural_limbs hx hb hC hw (by omega) bw_43 d_N_order_46 ?_
        refine lv_iload_n hx hb d_N_order_49 rfl (lv_at hl 0 rfl) ?_
        refine wl_limbs hx hb hw (by omega) (by omega) d_N_order_50 ?_
        refine lc_eq (tgt := 77) hx hb d_N_order_51 d_N_order_52 (by decide) (fun h8 => ?_) (fun h8 => ?_)
        · refine lv_iinc (v := (nI q - 1)) hx hb d_N_order_77 hl (k := 0) rfl (i32_m1 _) (by decide) rfl (fun ls hl => ?_)
          have hl : lv_has ls 3 [(2, .int (nI q - 1)), (0, .ref (wa T x)), (1, .ref (wa T y))] := hl
          refine lv_goto (tgt := 35) hx hb d_N_order_80 (by decide) ?_
          refine ih ls H locs (fun j a1 a2 => ?_) (by omega) hl hw
          by_cases ej : j = q
          · rw [ej]; exact lj_inj h8
          · exact h1 j (by omega) a2
        · refine lv_aload_n hx hb d_N_order_55 rfl (lv_at hl 1 rfl) ?_
          refine wg_Natural_limbs hx hb hC hw (by omega) bw_43 d_N_order_56 ?_
          refine lv_iload_n hx hb d_N_order_59 rfl (lv_at hl 0 rfl) ?_
          refine wl_limbs hx hb hw (by omega) (by omega) d_N_order_60 ?_
          refine lv_aload_n hx hb d_N_order_61 rfl (lv_at hl 2 rfl) ?_
          refine wg_Natural_limbs hx hb hC hw (by omega) bw_43 d_N_order_62 ?_
          refine lv_iload_n hx hb d_N_order_65 rfl (lv_at hl 0 rfl) ?_
          refine wl_limbs hx hb hw (by omega) (by omega) d_N_order_66 ?_
          refine lc_ge (tgt := 75) hx hb d_N_order_67 d_N_order_68 (by decide) (fun h7 => ?_) (fun h7 => ?_)
          · refine lv_iconst (v := nI 1) hx hb d_N_order_75 (by decide +kernel) ?_
            have e7 : lm_ev b28 (nd (fD (V y))) (q + 1) < lm_ev b28 (nd (fD (V x))) (q + 1) := lm_ltN b28_pos (fun j _ => (fD_in (V y) j).2) (fun j _ => (fD_in (V x) j).1) (by have h6 : nd (fD (V y)) q ≤ nd (fD (V x)) q := h7; have h5 : nd (fD (V x)) q ≠ nd (fD (V y)) q := h8; omega)
            have e6 := lm_ltUp (B := b28) (n := kD (V x)) h2 (fun j a1 a2 => by unfold nd; rw [h1 j a1 a2]) e7
            rw [vx, vy] at e6
            refine sw_i (y := (if V x < V y then (-1 : Int32) else if V x = V y then 0 else 1)) (by rw [if_neg (by omega), if_neg (by omega)]; rfl) ?_
            exact hret _ _ _ _ hw d_N_order_76
          · refine lv_iconst (v := (-1)) hx hb d_N_order_71 (by decide +kernel) ?_
            refine lv_goto (tgt := 76) hx hb d_N_order_72 (by decide) ?_
            have e7 : lm_ev b28 (nd (fD (V x))) (q + 1) < lm_ev b28 (nd (fD (V y))) (q + 1) := lm_ltN b28_pos (fun j _ => (fD_in (V x) j).2) (fun j _ => (fD_in (V y) j).1) h7
            have e6 := lm_ltUp (B := b28) (n := kD (V x)) h2 (fun j a1 a2 => by unfold nd; rw [h1 j a1 a2]) e7
            rw [vx, vy] at e6
            refine sw_i (y := (if V x < V y then (-1 : Int32) else if V x = V y then 0 else 1)) (by rw [if_pos (by omega)]) ?_
            exact hret _ _ _ _ hw d_N_order_76
    exact lp (kD (V x)) ls _ _ (fun j a1 a2 => absurd a2 (by omega)) (Nat.le_refl _) hl hw
  · refine lv_aload_n hx hb d_N_order_11 rfl (lv_at hl 0 rfl) ?_
    refine wg_Natural_used hx hb hC hw (by omega) bw_45 d_N_order_12 ?_
    refine sw_i (y := nI (kD (V x))) (rfl) ?_
    refine lv_aload_n hx hb d_N_order_15 rfl (lv_at hl 1 rfl) ?_
    refine wg_Natural_used hx hb hC hw (by omega) bw_45 d_N_order_16 ?_
    refine sw_i (y := nI (kD (V y))) (rfl) ?_
    refine n_icmp_ge (tgt := 26) hx hb d_N_order_19 (by decide) (by omega) (by omega) (fun h8 => ?_) (fun h8 => ?_)
    · refine lv_iconst (v := nI 1) hx hb d_N_order_26 (by decide +kernel) ?_
      have e9 := kD_less (a := V y) (b := V x) (hV y hy9) (by omega)
      refine sw_i (y := (if V x < V y then (-1 : Int32) else if V x = V y then 0 else 1)) (by rw [if_neg (by omega), if_neg (by omega)]; rfl) ?_
      exact hret _ _ _ _ hw d_N_order_27
    · refine lv_iconst (v := (-1)) hx hb d_N_order_22 (by decide +kernel) ?_
      refine lv_goto (tgt := 27) hx hb d_N_order_23 (by decide) ?_
      have e9 := kD_less (a := V x) (b := V y) (hV x hi) (by omega)
      refine sw_i (y := (if V x < V y then (-1 : Int32) else if V x = V y then 0 else 1)) (by rw [if_pos (by omega)]) ?_
      exact hret _ _ _ _ hw d_N_order_27
set_option maxRecDepth 100000 in
set_option maxHeartbeats 4000000 in
theorem k_N_pushDigit (l : Launch) (T : wT) (V : Nat → Nat) (K : wUt) (I : wIt) (O : wOt) (x rx dg : Nat) (hi : x < 34) (hr : 2 ≤ rx ∧ rx ≤ 36) (hg : dg < rx) (hk : kD (V x) ≤ 74) (hV : ∀ n, n < 34 → V n < vLim) : Met l y_N_pushDigit (.code y_N_pushDigit c_N_pushDigit 7 none :: bg) ({ frames := 1, cells := 0, slots := 0, locals := 22 } : Room) (mP T (fF V) (fU V) K I O [.ref (wa T x), .int (nI rx), .int (nI dg)]) (mQv T (fF (va_up V x (V x * rx + dg))) (fU (va_up V x (V x * rx + dg))) K I O) 0 0 (wA T) := by
  refine wM_v (by decide) (Nat.le_of_ble_eq_true rfl) ?_
  intro p e R s m args below meth c Q ls hx hb hC hRf hRl hret hl hw
  have hRf : 1 ≤ R.frames := hRf
  have hRl : 22 ≤ R.locals := hRl
  have hl : lv_has ls 7 [(0, .ref (wa T x)), (1, .int (nI rx)), (2, .int (nI dg))] := hl
  refine lv_iload_n hx hb d_N_pushDigit_0 rfl (lv_at hl 2 rfl) ?_
  refine lv_i2l hx hb d_N_pushDigit_1 rfl ?_
  refine sw_l (y := lN dg) (nI_l (by omega)) ?_
  refine lv_lstore_n hx hb d_N_pushDigit_2 rfl hl (by decide) rfl (fun ls hl => ?_)
  have hl : lv_has ls 7 [(3, .long (lN dg)), (0, .ref (wa T x)), (1, .int (nI rx)), (2, .int (nI dg))] := hl
  refine lv_aload_n hx hb d_N_pushDigit_3 rfl (lv_at hl 1 rfl) ?_
  refine wg_Natural_used hx hb hC hw (by omega) bw_45 d_N_pushDigit_4 ?_
  refine sw_i (y := nI (kD (V x))) (rfl) ?_
  refine lv_istore hx hb d_N_pushDigit_7 hl (by decide) rfl (fun ls hl => ?_)
  have hl : lv_has ls 7 [(5, .int (nI (kD (V x)))), (3, .long (lN dg)), (0, .ref (wa T x)), (1, .int (nI rx)), (2, .int (nI dg))] := hl
  refine lv_iconst (v := nI 0) hx hb d_N_pushDigit_9 (by decide +kernel) ?_
  refine lv_istore hx hb d_N_pushDigit_10 hl (by decide) rfl (fun ls hl => ?_)
  have hl : lv_has ls 7 [(6, .int (nI 0)), (5, .int (nI (kD (V x)))), (3, .long (lN dg)), (0, .ref (wa T x)), (1, .int (nI rx)), (2, .int (nI dg))] := hl
  rw [← va_upx (fF V) x] at hw
  have lp : ∀ (n i : Nat) (f : Nat → Int64) (cy : Int64) (ls : Array Slot) (H : Heap) (locs : List Loc), (kD (V x)) - i = n → i ≤ (kD (V x)) → (0 ≤ cy.toInt ∧ cy.toInt ≤ 36) → (lm_ev b28 (nd f) i + cy.toInt * b28 ^ i = lm_ev b28 (nd (fD (V x))) i * rx + dg) → (∀ j, j < i → 0 ≤ nd f j ∧ nd f j < b28) → (∀ j, i ≤ j → f j = fD (V x) j) →  lv_has ls 7 [(6, .int (nI i)), (5, .int (nI (kD (V x)))), (3, .long cy), (0, .ref (wa T x)), (1, .int (nI rx)), (2, .int (nI dg))] → wH T (va_up (fF V) x f) (fU V) K I O (wA T) s s.heap H locs → W p l e R s m args below meth c H locs 0 0 Q (F0 m 12 ls []) := by
    intro n
    induction n with
    | zero =>
      intro i f cy ls H locs hn hle h1 h2 h3 h4 hl hw
      refine lv_iload hx hb d_N_pushDigit_12 (lv_at hl 0 rfl) ?_
      refine lv_iload hx hb d_N_pushDigit_14 (lv_at hl 1 rfl) ?_
      refine n_icmp_ge (tgt := 55) hx hb d_N_pushDigit_16 (by decide) (by omega) (by omega) (fun h0 => ?_) (fun h0 => ?_)
      · have e9 : kD (V x) = i := by omega
        subst e9
        refine lv_aload_n hx hb d_N_pushDigit_55 rfl (lv_at hl 3 rfl) ?_
        refine wg_Natural_limbs hx hb hC hw (by omega) bw_43 d_N_pushDigit_56 ?_
        refine lv_iload hx hb d_N_pushDigit_59 (lv_at hl 1 rfl) ?_
        refine lv_lload_n hx hb d_N_pushDigit_61 rfl (lv_at hl 2 rfl) ?_
        refine ws_limbs hx hb hw (by omega) (by omega) d_N_pushDigit_62 (fun H locs hw => ?_)
        refine lv_aload_n hx hb d_N_pushDigit_63 rfl (lv_at hl 3 rfl) ?_
        refine lv_iload hx hb d_N_pushDigit_64 (lv_at hl 1 rfl) ?_
        refine lv_iconst (v := nI 1) hx hb d_N_pushDigit_66 (by decide +kernel) ?_
        refine n_iadd hx hb d_N_pushDigit_67 ?_
        rw [bx_uu, va_up_self] at hw
        have s1 : ∀ j, j < kD (V x) + 1 → 0 ≤ nd (vp_updL f (kD (V x)) cy) j ∧ nd (vp_updL f (kD (V x)) cy) j < b28 := fun j hj => by
          by_cases ej : j = kD (V x)
          · rw [ej, nd_upd]; exact ⟨h1.1, by show cy.toInt < 268435456; omega⟩
          · rw [nd_updN ej]; exact h3 j (by omega)
        have s2 : lm_ev b28 (nd (vp_updL f (kD (V x)) cy)) (kD (V x) + 1) = ((V x * rx + dg : Nat) : Int) := by
          rw [lm_evs, nd_upd, nd_evU (Nat.le_refl _), h2, fD_evI (hV x hi)]; simp
        refine wcV_v (As := [.int (nI ((kD (V x)) + 1))]) hx hb hC hw (k_N_settle l T (va_up (fF V) x (vp_updL f (kD (V x)) cy)) (fU V) K I O x (kD (V x)) (kD (V x) + 1) (V x * rx + dg) hi rfl (kD_le _) (by omega) (by rw [va_up_self]; exact s1) (fun j a1 a2 a3 => by rw [va_up_self, pk_uLn (by omega), h4 j (by omega)]; exact fD_zero (hV x hi) a2) (by rw [va_up_self]; exact s2)) lk_N_39 rfl rfl ⟨by show 0 + 1 ≤ R.frames; omega, by show 8 + (3 + 11) + 0 ≤ R.locals; omega⟩ (by omega) (we_Natural (by omega)) rfl rfl hl.1 rfl (Nat.le_of_ble_eq_true rfl) ⟨Nat.zero_le _, Nat.zero_le _⟩ d_N_pushDigit_68 (fun H locs hw => ?_)
        rw [bx_uu, fF_up, fU_up] at hw
        exact hret _ _ _ _ hw d_N_pushDigit_71
      · exact absurd h0 (by omega)
    | succ n ih =>
      intro i f cy ls H locs hn hle h1 h2 h3 h4 hl hw
      refine lv_iload hx hb d_N_pushDigit_12 (lv_at hl 0 rfl) ?_
      refine lv_iload hx hb d_N_pushDigit_14 (lv_at hl 1 rfl) ?_
      refine n_icmp_ge (tgt := 55) hx hb d_N_pushDigit_16 (by decide) (by omega) (by omega) (fun h0 => ?_) (fun h0 => ?_)
      · exact absurd h0 (by omega)
      · refine lv_lload_n hx hb d_N_pushDigit_19 rfl (lv_at hl 2 rfl) ?_
        refine lv_aload_n hx hb d_N_pushDigit_20 rfl (lv_at hl 3 rfl) ?_
        refine wg_Natural_limbs hx hb hC hw (by omega) bw_43 d_N_pushDigit_21 ?_
        refine lv_iload hx hb d_N_pushDigit_24 (lv_at hl 0 rfl) ?_
        refine wl_limbs hx hb hw (by omega) (by omega) d_N_pushDigit_26 ?_
        refine sw_l (y := fD (V x) i) (pv_alias h4) ?_
        refine lv_iload_n hx hb d_N_pushDigit_27 rfl (lv_at hl 4 rfl) ?_
        refine lv_i2l hx hb d_N_pushDigit_28 rfl ?_
        refine sw_l (y := lN rx) (nI_l (by omega)) ?_
        refine lv_lmul hx hb d_N_pushDigit_29 ?_
        refine lv_ladd hx hb d_N_pushDigit_30 ?_
        refine lv_topl (fun t et => ?_)
        refine lv_lstore_n hx hb d_N_pushDigit_31 rfl hl (by decide) rfl (fun ls hl => ?_)
        have hl : lv_has ls 7 [(3, .long t), (6, .int (nI i)), (5, .int (nI (kD (V x)))), (0, .ref (wa T x)), (1, .int (nI rx)), (2, .int (nI dg))] := hl
        refine lv_aload_n hx hb d_N_pushDigit_32 rfl (lv_at hl 3 rfl) ?_
        refine wg_Natural_limbs hx hb hC hw (by omega) bw_43 d_N_pushDigit_33 ?_
        refine lv_iload hx hb d_N_pushDigit_36 (lv_at hl 1 rfl) ?_
        refine lv_lload_n hx hb d_N_pushDigit_38 rfl (lv_at hl 0 rfl) ?_
        refine lv_ldc2 (v := 268435455) hx hb hC.ow (hC.hts bw_300) d_N_pushDigit_39 ?_
        refine lv_land hx hb d_N_pushDigit_42 ?_
        refine ws_limbs hx hb hw (by omega) (by omega) d_N_pushDigit_43 (fun H locs hw => ?_)
        refine lv_lload_n hx hb d_N_pushDigit_44 rfl (lv_at hl 0 rfl) ?_
        refine lv_bipush (v := nI 28) hx hb d_N_pushDigit_45 (by decide +kernel) ?_
        refine lv_lshr hx hb d_N_pushDigit_47 rfl ?_
        refine lv_lstore_n hx hb d_N_pushDigit_48 rfl hl (by decide) rfl (fun ls hl => ?_)
        have hl : lv_has ls 7 [(3, .long (t >>> ((nI 28).toInt64 &&& 63))), (6, .int (nI i)), (5, .int (nI (kD (V x)))), (0, .ref (wa T x)), (1, .int (nI rx)), (2, .int (nI dg))] := hl
        refine lv_iinc (v := nI (i + 1)) hx hb d_N_pushDigit_49 hl (k := 1) rfl (nI_add _ 1) (by decide) rfl (fun ls hl => ?_)
        have hl : lv_has ls 7 [(6, .int (nI (i + 1))), (3, .long (t >>> ((nI 28).toInt64 &&& 63))), (5, .int (nI (kD (V x)))), (0, .ref (wa T x)), (1, .int (nI rx)), (2, .int (nI dg))] := hl
        refine lv_goto (tgt := 12) hx hb d_N_pushDigit_52 (by decide) ?_
        rw [bx_uu, va_up_self] at hw
        have hl := lv_sub hl [0, 2, 1, 3, 4, 5] rfl
        have hl : lv_has ls 7 [(6, .int (nI (i + 1))), (5, .int (nI (kD (V x)))), (3, .long (t >>> ((nI 28).toInt64 &&& 63))), (0, .ref (wa T x)), (1, .int (nI rx)), (2, .int (nI dg))] := hl
        have q := ps_step hr h1 (fD_in (V x) i) et h2
        exact ih (i + 1) _ _ ls H locs (by omega) (by omega) q.1 (q.2.trans (by rw [lm_evs]; show _ + nd (fD (V x)) i * _ * _ = _; grind)) (pu_in h3) (fun j hj => by rw [pk_uLn (by omega)]; exact h4 j (by omega)) hl hw
  exact lp (kD (V x)) 0 (fD (V x)) (lN dg) ls _ _ (by omega) (by omega) (by rw [lj_lN (by omega)]; omega) (by rw [lm_ev0, lj_lN (by omega)]; simp) (fun j h => absurd h (by omega)) (fun _ _ => rfl) hl hw
set_option maxRecDepth 100000 in
set_option maxHeartbeats 4000000 in
theorem k_N_popDigit (l : Launch) (T : wT) (V : Nat → Nat) (K : wUt) (I : wIt) (O : wOt) (x rx : Nat) (hi : x < 34) (hr : 2 ≤ rx ∧ rx ≤ 36) (hV : ∀ n, n < 34 → V n < vLim) : Met l y_N_popDigit (.code y_N_popDigit c_N_popDigit 7 (some .int) :: bg) ({ frames := 1, cells := 0, slots := 0, locals := 22 } : Room) (mP T (fF V) (fU V) K I O [.ref (wa T x), .int (nI rx)]) (mQi T (nI (V x % rx)) (fF (va_up V x (V x / rx))) (fU (va_up V x (V x / rx))) K I O) 0 0 (wA T) := by
  refine wM_i (by decide) (Nat.le_of_ble_eq_true rfl) ?_
  intro p e R s m args below meth c Q ls hx hb hC hRf hRl hret hl hw
  have hRf : 1 ≤ R.frames := hRf
  have hRl : 22 ≤ R.locals := hRl
  have hl : lv_has ls 7 [(0, .ref (wa T x)), (1, .int (nI rx))] := hl
  have h9 := kD_le (V x)
  refine lv_lconst (v := 0) hx hb d_N_popDigit_0 (by decide +kernel) ?_
  refine lv_lstore_n hx hb d_N_popDigit_1 rfl hl (by decide) rfl (fun ls hl => ?_)
  have hl : lv_has ls 7 [(2, .long (0 : Int64)), (0, .ref (wa T x)), (1, .int (nI rx))] := hl
  refine lv_aload_n hx hb d_N_popDigit_2 rfl (lv_at hl 1 rfl) ?_
  refine wg_Natural_used hx hb hC hw (by omega) bw_45 d_N_popDigit_3 ?_
  refine sw_i (y := nI (kD (V x))) (rfl) ?_
  refine lv_iconst (v := nI 1) hx hb d_N_popDigit_6 (by decide +kernel) ?_
  refine lv_isub hx hb d_N_popDigit_7 ?_
  refine sw_i (y := (nI (kD (V x)) - 1)) (rfl) ?_
  refine lv_istore hx hb d_N_popDigit_8 hl (by decide) rfl (fun ls hl => ?_)
  have hl : lv_has ls 7 [(4, .int (nI (kD (V x)) - 1)), (2, .long (0 : Int64)), (0, .ref (wa T x)), (1, .int (nI rx))] := hl
  rw [← va_upx (fF V) x] at hw
  have lp : ∀ (q : Nat) (f : Nat → Int64) (lf : Int64) (ls : Array Slot) (H : Heap) (locs : List Loc), (∀ j, q ≤ j → j < 75 → f j = fD (V x / rx) j) → (∀ j, j < q → f j = fD (V x) j) → (lf = lN (V x / vB ^ q % rx)) → (q ≤ 75) →  lv_has ls 7 [(4, .int (nI q - 1)), (2, .long lf), (0, .ref (wa T x)), (1, .int (nI rx))] → wH T (va_up (fF V) x f) (fU V) K I O (wA T) s s.heap H locs → W p l e R s m args below meth c H locs 0 0 Q (F0 m 10 ls []) := by
    intro q
    induction q with
    | zero =>
      intro f lf ls H locs h1 h2 h3 h4 hl hw
      refine lv_iload hx hb d_N_popDigit_10 (lv_at hl 0 rfl) ?_
      refine d_if_lt (tgt := 54) hx hb d_N_popDigit_12 (by decide) (by omega) (fun h0 => ?_) (fun h0 => ?_)
      · refine lv_aload_n hx hb d_N_popDigit_54 rfl (lv_at hl 2 rfl) ?_
        refine lv_aload_n hx hb d_N_popDigit_55 rfl (lv_at hl 2 rfl) ?_
        refine wg_Natural_used hx hb hC hw (by omega) bw_45 d_N_popDigit_56 ?_
        refine sw_i (y := nI (kD (V x))) (rfl) ?_
        have s2 : lm_ev b28 (nd f) (kD (V x)) = ((V x / rx : Nat) : Int) := by
          rw [lm_congr (g := nd (fD (V x / rx))) (fun j hj => by unfold nd; rw [h1 j (by omega) (by omega)]), fD_ev, Nat.mod_eq_of_lt (Nat.lt_of_le_of_lt (Nat.div_le_self _ _) (kD_lt (hV x hi)))]
        refine wcV_v (As := [.int (nI (kD (V x)))]) hx hb hC hw (k_N_settle l T (va_up (fF V) x f) (fU V) K I O x (kD (V x)) (kD (V x)) (V x / rx) hi rfl (kD_le _) (kD_le _) (fun j hj => by rw [va_up_self]; unfold nd; rw [h1 j (by omega) (by omega)]; exact fD_in _ _) (fun j a1 a2 a3 => by rw [va_up_self, h1 j (by omega) a3]; unfold fD; rw [Nat.div_eq_of_lt (Nat.lt_of_le_of_lt (Nat.div_le_self _ _) (Nat.lt_of_lt_of_le (kD_lt (hV x hi)) (vB_le a1)))]; decide +kernel) (by rw [va_up_self]; exact s2)) lk_N_39 rfl rfl ⟨by show 0 + 1 ≤ R.frames; omega, by show 8 + (3 + 11) + 0 ≤ R.locals; omega⟩ (by omega) (we_Natural (by omega)) rfl rfl hl.1 rfl (Nat.le_of_ble_eq_true rfl) ⟨Nat.zero_le _, Nat.zero_le _⟩ d_N_popDigit_59 (fun H locs hw => ?_)
        rw [bx_uu, fF_up, fU_up] at hw
        refine lv_lload_n hx hb d_N_popDigit_62 rfl (lv_at hl 1 rfl) ?_
        refine lv_l2i hx hb d_N_popDigit_63 rfl ?_
        refine sw_i (y := nI (V x % rx)) (by rw [h3, Nat.pow_zero, Nat.div_one, lN_i]) ?_
        exact hret _ _ _ _ hw d_N_popDigit_64
      · exact absurd h0 (by omega)
    | succ q ih =>
      intro f lf ls H locs h1 h2 h3 h4 hl hw
      rw [nI_pred] at hl
      have hl : lv_has ls 7 [(4, .int (nI q)), (2, .long lf), (0, .ref (wa T x)), (1, .int (nI rx))] := hl
      refine lv_iload hx hb d_N_popDigit_10 (lv_at hl 0 rfl) ?_
      refine n_if_lt hx hb d_N_popDigit_12 (by decide) (by omega) ?_
      subst h3
      refine lv_lload_n hx hb d_N_popDigit_15 rfl (lv_at hl 1 rfl) ?_
      refine lv_ldc2 (v := 268435456) hx hb hC.ow (hC.hts bw_795) d_N_popDigit_16 ?_
      refine lv_lmul hx hb d_N_popDigit_19 ?_
      refine lv_aload_n hx hb d_N_popDigit_20 rfl (lv_at hl 2 rfl) ?_
      refine wg_Natural_limbs hx hb hC hw (by omega) bw_43 d_N_popDigit_21 ?_
      refine lv_iload hx hb d_N_popDigit_24 (lv_at hl 0 rfl) ?_
      refine wl_limbs hx hb hw (by omega) (by omega) d_N_popDigit_26 ?_
      refine sw_l (y := lN (V x / vB ^ q % vB)) (by rw [va_up_self, h2 q (by omega)]; rfl) ?_
      refine lv_ladd hx hb d_N_popDigit_27 ?_
      refine sw_l (y := lN (V x / vB ^ (q + 1) % rx * vB + V x / vB ^ q % vB)) (by rw [← lN_add, ← lN_mul]; rfl) ?_
      refine lv_lstore hx hb d_N_popDigit_28 hl (by decide) rfl (fun ls hl => ?_)
      have hl : lv_has ls 7 [(5, .long (lN (V x / vB ^ (q + 1) % rx * vB + V x / vB ^ q % vB))), (4, .int (nI q)), (2, .long (lN (V x / vB ^ (q + 1) % rx))), (0, .ref (wa T x)), (1, .int (nI rx))] := hl
      refine lv_aload_n hx hb d_N_popDigit_30 rfl (lv_at hl 3 rfl) ?_
      refine wg_Natural_limbs hx hb hC hw (by omega) bw_43 d_N_popDigit_31 ?_
      refine lv_iload hx hb d_N_popDigit_34 (lv_at hl 1 rfl) ?_
      refine lv_lload hx hb d_N_popDigit_36 (lv_at hl 0 rfl) ?_
      refine lv_iload_n hx hb d_N_popDigit_38 rfl (lv_at hl 4 rfl) ?_
      refine lv_i2l hx hb d_N_popDigit_39 rfl ?_
      refine sw_l (y := lN rx) (nI_l (by omega)) ?_
      refine lv_ldiv hx hb d_N_popDigit_40 (lN_ne0 (by omega) (by omega)) ?_
      refine sw_l (y := lN (V x / rx / vB ^ q % vB)) (by rw [pk_lDiv (pd_h hr.2 (by omega)) (by omega) (by omega), pd_q _ _ _ (by omega)]) ?_
      refine ws_limbs hx hb hw (by omega) (by omega) d_N_popDigit_41 (fun H locs hw => ?_)
      refine lv_lload hx hb d_N_popDigit_42 (lv_at hl 0 rfl) ?_
      refine lv_iload_n hx hb d_N_popDigit_44 rfl (lv_at hl 4 rfl) ?_
      refine lv_i2l hx hb d_N_popDigit_45 rfl ?_
      refine sw_l (y := lN rx) (nI_l (by omega)) ?_
      refine lv_lrem hx hb d_N_popDigit_46 (lN_ne0 (by omega) (by omega)) ?_
      refine sw_l (y := lN (V x / vB ^ q % rx)) (by rw [pk_lRem (pd_h hr.2 (by omega)) (by omega) (by omega), pd_r _ _ _ (by omega)]) ?_
      refine lv_lstore_n hx hb d_N_popDigit_47 rfl hl (by decide) rfl (fun ls hl => ?_)
      have hl : lv_has ls 7 [(2, .long (lN (V x / vB ^ q % rx))), (5, .long (lN (V x / vB ^ (q + 1) % rx * vB + V x / vB ^ q % vB))), (4, .int (nI q)), (0, .ref (wa T x)), (1, .int (nI rx))] := hl
      refine lv_iinc (v := (nI q - 1)) hx hb d_N_popDigit_48 hl (k := 2) rfl (i32_m1 _) (by decide) rfl (fun ls hl => ?_)
      have hl : lv_has ls 7 [(4, .int (nI q - 1)), (2, .long (lN (V x / vB ^ q % rx))), (5, .long (lN (V x / vB ^ (q + 1) % rx * vB + V x / vB ^ q % vB))), (0, .ref (wa T x)), (1, .int (nI rx))] := hl
      refine lv_goto (tgt := 10) hx hb d_N_popDigit_51 (by decide) ?_
      rw [bx_uu, va_up_self] at hw
      have hl := lv_sub hl [0, 1, 3, 4] rfl
      refine ih _ _ ls H locs (fun j a1 a2 => ?_) (fun j a1 => ?_) rfl (by omega) hl hw
      · by_cases ej : j = q
        · rw [ej, pk_uLs]; rfl
        · rw [pk_uLn ej]; exact h1 j (by omega) a2
      · rw [pk_uLn (by omega)]; exact h2 j (by omega)
  refine lp (kD (V x)) (fD (V x)) 0 ls _ _ (fun j a1 a2 => ?_) (fun _ _ => rfl) (by rw [Nat.div_eq_of_lt (kD_lt (hV x hi)), Nat.zero_mod]; rfl) h9 hl hw
  rw [fD_zero (hV x hi) a1]; unfold fD; rw [Nat.div_eq_of_lt (Nat.lt_of_le_of_lt (Nat.div_le_self _ _) (Nat.lt_of_lt_of_le (kD_lt (hV x hi)) (vB_le a1)))]; decide +kernel
end
section
/-! pasted out of the kit's BITS.to-paste: lN to 2^64 -/
/-! ===== lN n to 2^64: shifts, and, or, masks, one bit ===== -/
theorem wb_tb (n : Nat) : (lN n).toBitVec = BitVec.ofNat 64 n := rfl
theorem wb_inj {a b : Int64} (h : a.toBitVec = b.toBitVec) : a = b := Int64.toBitVec_inj.mp h
theorem wb_tn {n : Nat} (h : n < 2 ^ 64) : (lN n).toBitVec.toNat = n := by rw [wb_tb, BitVec.toNat_ofNat, Nat.mod_eq_of_lt h]
theorem wb_of (x : Int64) : ∃ n, n < 2 ^ 64 ∧ x = lN n := ⟨x.toBitVec.toNat, x.toBitVec.isLt, wb_inj (by rw [wb_tb]; simp)⟩
theorem wb_of32 (x : Int32) : ∃ n, n < 2 ^ 32 ∧ x = nI n := ⟨x.toBitVec.toNat, x.toBitVec.isLt, Int32.toBitVec_inj.mp (by show _ = BitVec.ofNat 32 _; simp)⟩
theorem wb_c : ∀ k, k < 64 → ((nI k).toInt64 &&& 63) = lN k := by decide +kernel
theorem wb_cu : ∀ k, k < 64 → ((nI k).toInt64.toUInt64 &&& Int64.toUInt64 63) = UInt64.ofNat k := by decide +kernel
theorem wb_sm : ∀ k, k < 64 → (BitVec.ofNat 64 k).smod 64 = BitVec.ofNat 64 k := by decide +kernel
theorem wb_pw {a b : Nat} (h : a ≤ b) : 2 ^ b = 2 ^ a * 2 ^ (b - a) := by rw [← Nat.pow_add]; congr 1; omega
theorem wb_lt2 {a b : Nat} (h : a < b) : 2 ^ a < 2 ^ b := Nat.pow_lt_pow_right (by decide) h
theorem wb_mod (n : Nat) : lN n = lN (n % 2 ^ 64) := wb_inj (by rw [wb_tb, wb_tb]; apply BitVec.eq_of_toNat_eq; rw [BitVec.toNat_ofNat, BitVec.toNat_ofNat, Nat.mod_mod])
theorem wb_shr {n k : Nat} (hn : n < 2 ^ 64) (hk : k < 64) : ((lN n).toUInt64 >>> ((nI k).toInt64.toUInt64 &&& Int64.toUInt64 63)).toInt64 = lN (n / 2 ^ k) := by
  rw [wb_cu k hk]
  apply wb_inj
  apply BitVec.eq_of_toNat_eq
  show ((lN n).toUInt64 >>> UInt64.ofNat k).toNat = (BitVec.ofNat 64 _).toNat
  have h1 : (UInt64.ofNat k).toNat = k := by
    show (BitVec.ofNat 64 k).toNat = k
    rw [BitVec.toNat_ofNat, Nat.mod_eq_of_lt (by omega)]
  have h2 : (lN n).toUInt64.toNat = n := wb_tn hn
  rw [UInt64.toNat_shiftRight, h1, h2, Nat.mod_eq_of_lt hk, Nat.shiftRight_eq_div_pow, BitVec.toNat_ofNat, Nat.mod_eq_of_lt (Nat.lt_of_le_of_lt (Nat.div_le_self _ _) hn)]
theorem wb_shl (n : Nat) {k : Nat} (hk : k < 64) : lN n <<< ((nI k).toInt64 &&& 63) = lN (n * 2 ^ k) := by
  rw [wb_c k hk]
  apply wb_inj
  rw [Int64.toBitVec_shiftLeft, wb_tb, wb_tb, wb_tb, wb_sm k hk]
  apply BitVec.eq_of_toNat_eq
  rw [BitVec.shiftLeft_eq', BitVec.toNat_shiftLeft, BitVec.toNat_ofNat, BitVec.toNat_ofNat, BitVec.toNat_ofNat, Nat.mod_eq_of_lt (show k < 2 ^ 64 by omega), Nat.shiftLeft_eq, Nat.mul_mod, Nat.mod_mod, ← Nat.mul_mod]
theorem wb_and {a b : Nat} (ha : a < 2 ^ 64) (hb : b < 2 ^ 64) : lN a &&& lN b = lN (a &&& b) := by
  apply wb_inj
  rw [Int64.toBitVec_and, wb_tb, wb_tb, wb_tb]
  apply BitVec.eq_of_toNat_eq
  rw [BitVec.toNat_and, BitVec.toNat_ofNat, BitVec.toNat_ofNat, BitVec.toNat_ofNat, Nat.mod_eq_of_lt ha, Nat.mod_eq_of_lt hb, Nat.mod_eq_of_lt (Nat.and_lt_two_pow _ hb)]
theorem wb_or {a b : Nat} (ha : a < 2 ^ 64) (hb : b < 2 ^ 64) : lN a ||| lN b = lN (a ||| b) := by
  apply wb_inj
  rw [Int64.toBitVec_or, wb_tb, wb_tb, wb_tb]
  apply BitVec.eq_of_toNat_eq
  rw [BitVec.toNat_or, BitVec.toNat_ofNat, BitVec.toNat_ofNat, BitVec.toNat_ofNat, Nat.mod_eq_of_lt ha, Nat.mod_eq_of_lt hb, Nat.mod_eq_of_lt (Nat.or_lt_two_pow ha hb)]
theorem wb_mask {n k : Nat} (hn : n < 2 ^ 64) (hk : k < 64) : lN n &&& lN (2 ^ k - 1) = lN (n % 2 ^ k) := by
  rw [wb_and hn (by have := wb_lt2 hk; omega), Nat.and_two_pow_sub_one_eq_mod]
theorem wb_a1 {n : Nat} (hn : n < 2 ^ 64) : lN n &&& 1 = lN (n % 2) := wb_mask (k := 1) hn (by decide)
theorem wb_bit {n k : Nat} (hn : n < 2 ^ 64) (hk : k < 64) : ((lN n).toUInt64 >>> ((nI k).toInt64.toUInt64 &&& Int64.toUInt64 63)).toInt64 &&& 1 = lN (n / 2 ^ k % 2) := by
  rw [wb_shr hn hk, wb_a1 (Nat.lt_of_le_of_lt (Nat.div_le_self _ _) hn)]
theorem wb_xor {q k : Nat} (hk : k < 63) (h : 2 ^ k ≤ q) (h2 : q < 2 ^ (k + 1)) : lN q ^^^ lN (2 ^ k) = lN (q - 2 ^ k) := by
  obtain ⟨r, rfl⟩ : ∃ r, q = 2 ^ k + r := ⟨q - 2 ^ k, by omega⟩
  have hr : r < 2 ^ k := by rw [Nat.pow_succ] at h2; omega
  have hx : (2 ^ k + r) ^^^ 2 ^ k = r := by
    apply Nat.eq_of_testBit_eq
    intro i
    rw [Nat.testBit_xor, Nat.testBit_two_pow]
    rcases Nat.lt_trichotomy i k with h | h | h
    · rw [Nat.testBit_two_pow_add_gt h]
      simp [show ¬ k = i by omega]
    · subst h
      rw [Nat.testBit_two_pow_add_eq]
      simp
    · have a1 : 2 ^ (k + 1) ≤ 2 ^ i := Nat.pow_le_pow_right (by decide) h
      rw [Nat.testBit_lt_two_pow (show 2 ^ k + r < 2 ^ i by omega), Nat.testBit_lt_two_pow (show r < 2 ^ i by omega)]
      simp [show ¬ k = i by omega]
  have b1 := wb_lt2 (show k + 1 < 64 by omega)
  have b2 := wb_lt2 (show k < 64 by omega)
  apply wb_inj
  rw [Int64.toBitVec_xor, wb_tb, wb_tb, wb_tb]
  apply BitVec.eq_of_toNat_eq
  rw [BitVec.toNat_xor, BitVec.toNat_ofNat, BitVec.toNat_ofNat, BitVec.toNat_ofNat, Nat.mod_eq_of_lt (by omega : 2 ^ k + r < 2 ^ 64), Nat.mod_eq_of_lt b2, hx, Nat.add_sub_cancel_left, Nat.mod_eq_of_lt (by omega)]
/-! ===== lN: masks, 'or' of parts that don't overlap is a sum ===== -/
theorem u_tn {n : Nat} (h : n < 2 ^ 64) : (UInt64.ofNat n).toNat = n := Nat.mod_eq_of_lt h
theorem g_and {a b c : Nat} (ha : a < 2 ^ 64) (hb : b < 2 ^ 64) (hc : a &&& b = c) : lN a &&& lN b = lN c := by
  subst hc
  have h : UInt64.ofNat a &&& UInt64.ofNat b = UInt64.ofNat (a &&& b) := UInt64.toNat_inj.mp (by rw [UInt64.toNat_and, u_tn ha, u_tn hb, u_tn (Nat.and_lt_two_pow a hb)])
  have h2 := congrArg UInt64.toInt64 h
  exact h2
theorem g_and1 {a : Nat} (ha : a < 2 ^ 64) : lN a &&& 1 = lN (a % 2) := g_and (b := 1) ha (by decide) (Nat.and_two_pow_sub_one_eq_mod a 1)
theorem g_mask {a s p : Nat} (hp : 2 ^ s = p) (hs : s < 64) (ha : a < 2 ^ 64) : lN a &&& lN (p - 1) = lN (a % p) := by
  subst hp
  have := Nat.pow_lt_pow_right (show 1 < 2 by decide) hs
  exact g_and ha (by omega) (Nat.and_two_pow_sub_one_eq_mod a s)
theorem g_or {k p a b : Nat} (hp : 2 ^ k = p) (ha : a < p) (h : b * p + a < 2 ^ 64) : lN (b * p) ||| lN a = lN (b * p + a) := by
  subst hp
  have h1 : b * 2 ^ k ||| a = b * 2 ^ k + a := by rw [← Nat.shiftLeft_eq, Nat.shiftLeft_add_eq_or_of_lt ha]
  have h3 : UInt64.ofNat (b * 2 ^ k) ||| UInt64.ofNat a = UInt64.ofNat (b * 2 ^ k + a) := UInt64.toNat_inj.mp (by rw [UInt64.toNat_or, u_tn (by omega), u_tn (by omega), u_tn h, h1])
  have h2 := congrArg UInt64.toInt64 h3
  exact h2
theorem g_or' {k p a b : Nat} (hp : 2 ^ k = p) (ha : a < p) (h : a + b * p < 2 ^ 64) : lN a ||| lN (b * p) = lN (a + b * p) := by
  rw [Int64.or_comm, g_or hp ha (by omega), Nat.add_comm]
theorem g_ushr {a k p : Nat} {y : UInt64} (hy : y = UInt64.ofNat k) (hk : k < 64) (hp : 2 ^ k = p) (ha : a < 2 ^ 64) : ((lN a).toUInt64 >>> y).toInt64 = lN (a / p) := by
  subst hy hp
  have h : UInt64.ofNat a >>> UInt64.ofNat k = UInt64.ofNat (a / 2 ^ k) := UInt64.toNat_inj.mp (by rw [UInt64.toNat_shiftRight, u_tn ha, u_tn (by omega), u_tn (Nat.lt_of_le_of_lt (Nat.div_le_self _ _) ha), Nat.mod_eq_of_lt hk, Nat.shiftRight_eq_div_pow])
  have h2 := congrArg UInt64.toInt64 h
  exact h2
theorem g_shl {a k p : Nat} {y : Int64} (hy : y.toBitVec.smod 64 = BitVec.ofNat 64 k) (hk : k < 64) (hp : 2 ^ k = p) (ha : a < 2 ^ 64) : lN a <<< y = lN (a * p) := by
  subst hp
  apply Int64.toBitVec_inj.mp
  rw [Int64.toBitVec_shiftLeft, hy]
  apply BitVec.eq_of_toNat_eq
  have hb : (lN a).toBitVec.toNat = a := Nat.mod_eq_of_lt ha
  have hk' : (BitVec.ofNat 64 k).toNat = k := Nat.mod_eq_of_lt (by omega)
  have h : ((lN a).toBitVec <<< BitVec.ofNat 64 k).toNat = (a * 2 ^ k) % 2 ^ 64 := by simp only [BitVec.shiftLeft_eq', BitVec.toNat_shiftLeft, hb, hk', Nat.shiftLeft_eq]
  exact h
end
section
/-! Natural: bits -/
theorem lN_lim : ((268435455 : Int64)) = lN (2 ^ 28 - 1) := by decide +kernel
theorem lN_shrN {a k : Nat} (ha : a < 4611686018427387904) (hk : k < 64) : lN a >>> ((nI k).toInt64 &&& 63) = lN (a / 2 ^ k) := by
  apply lj_inj
  have h1 : a / 2 ^ k ≤ a := Nat.div_le_self _ _
  rw [wb_c k hk, lj_shr (lN a) k (by rw [wb_tb, wb_sm k hk, BitVec.toNat_ofNat, Nat.mod_eq_of_lt (by omega)]), lj_lN (by omega), lj_lN (by omega)]
  simp
theorem fD_lN (v j : Nat) : fD v j = lN (v / vB ^ j % vB) := rfl
theorem dg_lt (v j : Nat) : v / vB ^ j % vB < 268435456 := Nat.mod_lt _ vB_pos
theorem vB_two (n : Nat) : vB ^ n = 2 ^ (28 * n) := by rw [show vB = 2 ^ 28 from rfl, ← Nat.pow_mul]
theorem at_fD {v j k : Nat} (h : v < vLim) (hk : kD v = k) : (if j < k then fD v j else 0) = fD v j := by
  split
  · rfl
  · rw [fD_zero h (by omega)]
theorem dg_bit (v i : Nat) : (v / vB ^ (i / 28) % vB).testBit (i % 28) = v.testBit i := by
  rw [vB_two, show vB = 2 ^ 28 from rfl, Nat.testBit_mod_two_pow, Nat.testBit_div_two_pow]
  have h1 : i % 28 < 28 := Nat.mod_lt _ (by decide)
  have h2 : 28 * (i / 28) + i % 28 = i := Nat.div_add_mod i 28
  rw [Nat.add_comm (i % 28), h2]
  simp [h1]
theorem tb_mod (a r : Nat) : a.testBit r = decide (a / 2 ^ r % 2 = 1) := Nat.testBit_eq_decide_div_mod_eq
theorem low_eq (v : Nat) : lN (v / vB ^ 0 % vB) ||| lN (v / vB ^ 1 % vB) <<< ((nI 28).toInt64 &&& 63) ||| lN (v / vB ^ 2 % vB) <<< ((nI 56).toInt64 &&& 63) = lN v := by
  have e0 : vB = 268435456 := rfl
  have h0 := Nat.mod_lt (v / vB ^ 0) vB_pos
  have h1 := Nat.mod_lt (v / vB ^ 1) vB_pos
  rw [wb_shl _ (by decide), wb_shl _ (by decide)]
  have e1 : lN (v / vB ^ 0 % vB) ||| lN (v / vB ^ 1 % vB * 2 ^ 28) = lN (v / vB ^ 0 % vB + v / vB ^ 1 % vB * 2 ^ 28) := g_or' (k := 28) rfl (by rw [e0] at h0; exact h0) (by omega)
  rw [e1, wb_mod (v / vB ^ 2 % vB * 2 ^ 56)]
  have e2 : v / vB ^ 2 % vB * 2 ^ 56 % 2 ^ 64 = (v / vB ^ 2 % vB % 256) * 2 ^ 56 := by
    rw [show (2 : Nat) ^ 64 = 256 * 2 ^ 56 by decide, Nat.mul_mod_mul_right]
  have h3 : v / vB ^ 2 % vB % 256 < 256 := Nat.mod_lt _ (by decide)
  have e3 : lN (v / vB ^ 0 % vB + v / vB ^ 1 % vB * 2 ^ 28) ||| lN (v / vB ^ 2 % vB % 256 * 2 ^ 56) = lN (v / vB ^ 0 % vB + v / vB ^ 1 % vB * 2 ^ 28 + v / vB ^ 2 % vB % 256 * 2 ^ 56) := g_or' (k := 56) rfl (by omega) (by omega)
  rw [e2, e3, wb_mod v]
  congr 1
  have e4 : vB ^ 0 = 1 := rfl
  have e5 : vB ^ 1 = 268435456 := by decide
  have e6 : vB ^ 2 = 72057594037927936 := by decide
  rw [e4, e5, e6, e0, Nat.div_one]
  omega

set_option maxRecDepth 100000 in
set_option maxHeartbeats 4000000 in
theorem k_N_takeUnsigned (l : Launch) (T : wT) (V : Nat → Nat) (K : wUt) (I : wIt) (O : wOt) (x N : Nat) (hi : x < 34) (hN : N < 2 ^ 64) (hV : ∀ n, n < 34 → V n < vLim) : Met l y_N_takeUnsigned (.code y_N_takeUnsigned c_N_takeUnsigned 3 none :: bg) ({ frames := 1, cells := 0, slots := 0, locals := 22 } : Room) (mP T (fF V) (fU V) K I O [.ref (wa T x), .long (lN N)]) (mQv T (fF (va_up V x N)) (fU (va_up V x N)) K I O) 0 0 (wA T) := by
  refine wM_v (by decide) (Nat.le_of_ble_eq_true rfl) ?_
  intro p e R s m args below meth c Q ls hx hb hC hRf hRl hret hl hw
  have hRf : 1 ≤ R.frames := hRf
  have hRl : 22 ≤ R.locals := hRl
  have hl : lv_has ls 3 [(0, .ref (wa T x)), (1, .long (lN N))] := hl
  have e28 : (2 : Nat) ^ 28 = 268435456 := rfl
  have e56 : (2 : Nat) ^ 56 = 72057594037927936 := rfl
  have e64 : (2 : Nat) ^ 64 = 18446744073709551616 := rfl
  refine lv_aload_n hx hb d_N_takeUnsigned_0 rfl (lv_at hl 0 rfl) ?_
  refine wg_Natural_limbs hx hb hC hw (by omega) bw_43 d_N_takeUnsigned_1 ?_
  refine lv_iconst (v := nI 0) hx hb d_N_takeUnsigned_4 (by decide +kernel) ?_
  refine lv_lload_n hx hb d_N_takeUnsigned_5 rfl (lv_at hl 1 rfl) ?_
  refine lv_ldc2 (v := 268435455) hx hb hC.ow (hC.hts bw_300) d_N_takeUnsigned_6 ?_
  refine lv_land hx hb d_N_takeUnsigned_9 ?_
  refine sw_l (y := lN (N % 2 ^ 28)) (by rw [lN_lim, wb_mask hN (by decide)]) ?_
  refine ws_limbs hx hb hw (by omega) (by omega) d_N_takeUnsigned_10 (fun H locs hw => ?_)
  refine lv_aload_n hx hb d_N_takeUnsigned_11 rfl (lv_at hl 0 rfl) ?_
  refine wg_Natural_limbs hx hb hC hw (by omega) bw_43 d_N_takeUnsigned_12 ?_
  refine lv_iconst (v := nI 1) hx hb d_N_takeUnsigned_15 (by decide +kernel) ?_
  refine lv_lload_n hx hb d_N_takeUnsigned_16 rfl (lv_at hl 1 rfl) ?_
  refine lv_bipush (v := nI 28) hx hb d_N_takeUnsigned_17 (by decide +kernel) ?_
  refine lv_lushr hx hb d_N_takeUnsigned_19 rfl ?_
  refine sw_l (y := lN (N / 2 ^ 28)) (wb_shr hN (by decide)) ?_
  refine lv_ldc2 (v := 268435455) hx hb hC.ow (hC.hts bw_300) d_N_takeUnsigned_20 ?_
  refine lv_land hx hb d_N_takeUnsigned_23 ?_
  refine sw_l (y := lN (N / 2 ^ 28 % 2 ^ 28)) (by rw [lN_lim, wb_mask (by omega) (by decide)]) ?_
  refine ws_limbs hx hb hw (by omega) (by omega) d_N_takeUnsigned_24 (fun H locs hw => ?_)
  refine lv_aload_n hx hb d_N_takeUnsigned_25 rfl (lv_at hl 0 rfl) ?_
  refine wg_Natural_limbs hx hb hC hw (by omega) bw_43 d_N_takeUnsigned_26 ?_
  refine lv_iconst (v := nI 2) hx hb d_N_takeUnsigned_29 (by decide +kernel) ?_
  refine lv_lload_n hx hb d_N_takeUnsigned_30 rfl (lv_at hl 1 rfl) ?_
  refine lv_bipush (v := nI 56) hx hb d_N_takeUnsigned_31 (by decide +kernel) ?_
  refine lv_lushr hx hb d_N_takeUnsigned_33 rfl ?_
  refine sw_l (y := lN (N / 2 ^ 56)) (wb_shr hN (by decide)) ?_
  refine ws_limbs hx hb hw (by omega) (by omega) d_N_takeUnsigned_34 (fun H locs hw => ?_)
  refine lv_aload_n hx hb d_N_takeUnsigned_35 rfl (lv_at hl 0 rfl) ?_
  refine lv_iconst (v := nI 3) hx hb d_N_takeUnsigned_36 (by decide +kernel) ?_
  rw [bx_uu, bx_uu, va_up_self, va_up_self] at hw
  generalize hf : vp_updL (vp_updL (vp_updL (fF V x) 0 (lN (N % 2 ^ 28))) 1 (lN (N / 2 ^ 28 % 2 ^ 28))) 2 (lN (N / 2 ^ 56)) = f at hw
  have d0 : nd f 0 = ((N % 2 ^ 28 : Nat) : Int) := by rw [← hf, nd_updN (by decide), nd_updN (by decide), nd_upd]; exact lj_lN (by omega)
  have d1 : nd f 1 = ((N / 2 ^ 28 % 2 ^ 28 : Nat) : Int) := by rw [← hf, nd_updN (by decide), nd_upd]; exact lj_lN (by omega)
  have d2 : nd f 2 = ((N / 2 ^ 56 : Nat) : Int) := by rw [← hf, nd_upd]; exact lj_lN (by omega)
  have s1 : ∀ j, j < 3 → 0 ≤ nd f j ∧ nd f j < b28 := fun j hj => by
    have e9 : j = 0 ∨ j = 1 ∨ j = 2 := by omega
    rcases e9 with rfl | rfl | rfl
    · rw [d0]; show _ ∧ _ < (268435456 : Int); omega
    · rw [d1]; show _ ∧ _ < (268435456 : Int); omega
    · rw [d2]; show _ ∧ _ < (268435456 : Int); omega
  have s2 : lm_ev b28 (nd f) 3 = (N : Int) := by
    have e1 : b28 ^ 1 = 268435456 := by decide
    have e2 : b28 ^ 2 = 72057594037927936 := by decide
    have e0 : b28 ^ 0 = 1 := rfl
    rw [lm_evs, lm_evs, lm_evs, lm_ev0, d0, d1, d2, e0, e1, e2]; omega
  refine wcV_v (As := [.int (nI 3)]) hx hb hC hw (k_N_settle l T (va_up (fF V) x f) (fU V) K I O x (kD (V x)) 3 N hi rfl (kD_le _) (by omega) (by rw [va_up_self]; exact s1) (fun j a1 a2 a3 => by rw [va_up_self, ← hf, pk_uLn (by omega), pk_uLn (by omega), pk_uLn (by omega)]; exact fD_zero (hV x hi) a2) (by rw [va_up_self]; exact s2)) lk_N_39 rfl rfl ⟨by show 0 + 1 ≤ R.frames; omega, by show 8 + (3 + 11) + 0 ≤ R.locals; omega⟩ (by omega) (we_Natural (by omega)) rfl rfl hl.1 rfl (Nat.le_of_ble_eq_true rfl) ⟨Nat.zero_le _, Nat.zero_le _⟩ d_N_takeUnsigned_37 (fun H locs hw => ?_)
  rw [bx_uu, fF_up, fU_up] at hw
  exact hret _ _ _ _ hw d_N_takeUnsigned_40
set_option maxRecDepth 100000 in
set_option maxHeartbeats 4000000 in
theorem k_N_lowLong (l : Launch) (T : wT) (V : Nat → Nat) (K : wUt) (I : wIt) (O : wOt) (x : Nat) (hi : x < 34) (hV : ∀ n, n < 34 → V n < vLim) : Met l y_N_lowLong (.code y_N_lowLong c_N_lowLong 1 (some .long) :: bg) ({ frames := 1, cells := 0, slots := 0, locals := 21 } : Room) (mP T (fF V) (fU V) K I O [.ref (wa T x)]) (mQl T (lN (V x)) (fF V) (fU V) K I O) 0 0 (wA T) := by
  refine wM_l (by decide) (Nat.le_of_ble_eq_true rfl) ?_
  intro p e R s m args below meth c Q ls hx hb hC hRf hRl hret hl hw
  have hRf : 1 ≤ R.frames := hRf
  have hRl : 21 ≤ R.locals := hRl
  have hl : lv_has ls 1 [(0, .ref (wa T x))] := hl
  refine lv_aload_n hx hb d_N_lowLong_0 rfl (lv_at hl 0 rfl) ?_
  refine lv_iconst (v := nI 0) hx hb d_N_lowLong_1 (by decide +kernel) ?_
  refine wcV_l (As := [.int (nI 0)]) hx hb hC hw (k_N_at l T (fF V) (fU V) K I O x 0 (kD (V x)) hi rfl (kD_le _) (by omega)) lk_N_19 rfl rfl ⟨by show 0 + 1 ≤ R.frames; omega, by show 8 + (2 + 11) + 0 ≤ R.locals; omega⟩ (by omega) (we_Natural (by omega)) rfl rfl hl.1 rfl (Nat.le_of_ble_eq_true rfl) ⟨Nat.zero_le _, Nat.zero_le _⟩ d_N_lowLong_2 (fun H locs hw => ?_)
  refine sw_l (y := lN (V x / vB ^ 0 % vB)) (at_fD (hV x hi) rfl) ?_
  refine lv_aload_n hx hb d_N_lowLong_5 rfl (lv_at hl 0 rfl) ?_
  refine lv_iconst (v := nI 1) hx hb d_N_lowLong_6 (by decide +kernel) ?_
  refine wcV_l (As := [.int (nI 1)]) hx hb hC hw (k_N_at l T (fF V) (fU V) K I O x 1 (kD (V x)) hi rfl (kD_le _) (by omega)) lk_N_19 rfl rfl ⟨by show 0 + 1 ≤ R.frames; omega, by show 8 + (2 + 11) + 0 ≤ R.locals; omega⟩ (by omega) (we_Natural (by omega)) rfl rfl hl.1 rfl (Nat.le_of_ble_eq_true rfl) ⟨Nat.zero_le _, Nat.zero_le _⟩ d_N_lowLong_7 (fun H locs hw => ?_)
  refine sw_l (y := lN (V x / vB ^ 1 % vB)) (at_fD (hV x hi) rfl) ?_
  refine lv_bipush (v := nI 28) hx hb d_N_lowLong_10 (by decide +kernel) ?_
  refine lv_lshl hx hb d_N_lowLong_12 rfl ?_
  refine lv_lor hx hb d_N_lowLong_13 ?_
  refine lv_aload_n hx hb d_N_lowLong_14 rfl (lv_at hl 0 rfl) ?_
  refine lv_iconst (v := nI 2) hx hb d_N_lowLong_15 (by decide +kernel) ?_
  refine wcV_l (As := [.int (nI 2)]) hx hb hC hw (k_N_at l T (fF V) (fU V) K I O x 2 (kD (V x)) hi rfl (kD_le _) (by omega)) lk_N_19 rfl rfl ⟨by show 0 + 1 ≤ R.frames; omega, by show 8 + (2 + 11) + 0 ≤ R.locals; omega⟩ (by omega) (we_Natural (by omega)) rfl rfl hl.1 rfl (Nat.le_of_ble_eq_true rfl) ⟨Nat.zero_le _, Nat.zero_le _⟩ d_N_lowLong_16 (fun H locs hw => ?_)
  refine sw_l (y := lN (V x / vB ^ 2 % vB)) (at_fD (hV x hi) rfl) ?_
  refine lv_bipush (v := nI 56) hx hb d_N_lowLong_19 (by decide +kernel) ?_
  refine lv_lshl hx hb d_N_lowLong_21 rfl ?_
  refine lv_lor hx hb d_N_lowLong_22 ?_
  refine sw_l (y := lN (V x)) (low_eq (V x)) ?_
  exact hret _ _ _ _ hw d_N_lowLong_23
set_option maxRecDepth 100000 in
set_option maxHeartbeats 4000000 in
theorem k_N_hasBit (l : Launch) (T : wT) (V : Nat → Nat) (K : wUt) (I : wIt) (O : wOt) (x i : Nat) (hi : x < 34) (hb9 : i < 2147483648) (hV : ∀ n, n < 34 → V n < vLim) : Met l y_N_hasBit (.code y_N_hasBit c_N_hasBit 2 (some .boolean) :: bg) ({ frames := 1, cells := 0, slots := 0, locals := 21 } : Room) (mP T (fF V) (fU V) K I O [.ref (wa T x), .int (nI i)]) (mQi T (if (V x).testBit i = true then (1 : Int32) else 0) (fF V) (fU V) K I O) 0 0 (wA T) := by
  refine wM_z (by decide) (Nat.le_of_ble_eq_true rfl) (zN _) ?_
  intro p e R s m args below meth c Q ls hx hb hC hRf hRl hret hl hw
  have hRf : 1 ≤ R.frames := hRf
  have hRl : 21 ≤ R.locals := hRl
  have hl : lv_has ls 2 [(0, .ref (wa T x)), (1, .int (nI i))] := hl
  have hd := dg_lt (V x) (i / 28)
  have hm : i % 28 < 28 := Nat.mod_lt _ (by decide)
  refine lv_aload_n hx hb d_N_hasBit_0 rfl (lv_at hl 0 rfl) ?_
  refine lv_iload_n hx hb d_N_hasBit_1 rfl (lv_at hl 1 rfl) ?_
  refine lv_bipush (v := nI 28) hx hb d_N_hasBit_2 (by decide +kernel) ?_
  refine n_idiv hx hb d_N_hasBit_4 (by omega) (by omega) (by omega) ?_
  refine wcV_l (As := [.int (nI (i / 28))]) hx hb hC hw (k_N_at l T (fF V) (fU V) K I O x (i / 28) (kD (V x)) hi rfl (kD_le _) (by omega)) lk_N_19 rfl rfl ⟨by show 0 + 1 ≤ R.frames; omega, by show 8 + (2 + 11) + 0 ≤ R.locals; omega⟩ (by omega) (we_Natural (by omega)) rfl rfl hl.1 rfl (Nat.le_of_ble_eq_true rfl) ⟨Nat.zero_le _, Nat.zero_le _⟩ d_N_hasBit_5 (fun H locs hw => ?_)
  refine sw_l (y := lN (V x / vB ^ (i / 28) % vB)) (at_fD (hV x hi) rfl) ?_
  refine lv_iload_n hx hb d_N_hasBit_8 rfl (lv_at hl 1 rfl) ?_
  refine lv_bipush (v := nI 28) hx hb d_N_hasBit_9 (by decide +kernel) ?_
  refine n_irem hx hb d_N_hasBit_11 (by omega) (by omega) (by omega) ?_
  refine lv_lshr hx hb d_N_hasBit_12 rfl ?_
  refine sw_l (y := lN (V x / vB ^ (i / 28) % vB / 2 ^ (i % 28))) (lN_shrN (by omega) (by omega)) ?_
  have hq : V x / vB ^ (i / 28) % vB / 2 ^ (i % 28) ≤ V x / vB ^ (i / 28) % vB := Nat.div_le_self _ _
  refine lv_lconst (v := 1) hx hb d_N_hasBit_13 (by decide +kernel) ?_
  refine lv_land hx hb d_N_hasBit_14 ?_
  refine sw_l (y := lN (V x / vB ^ (i / 28) % vB / 2 ^ (i % 28) % 2)) (wb_a1 (by omega)) ?_
  have hz := dg_bit (V x) i
  rw [tb_mod] at hz
  have ht : (lN (V x / vB ^ (i / 28) % vB / 2 ^ (i % 28) % 2)).toInt = ((V x / vB ^ (i / 28) % vB / 2 ^ (i % 28) % 2 : Nat) : Int) := lj_lN (by omega)
  refine lv_lconst (v := 1) hx hb d_N_hasBit_15 (by decide +kernel) ?_
  refine lc_ne (tgt := 24) hx hb d_N_hasBit_16 d_N_hasBit_17 (by decide) (fun h8 => ?_) (fun h8 => ?_)
  · refine lv_iconst (v := nI 0) hx hb d_N_hasBit_24 (by decide +kernel) ?_
    refine sw_i (y := (if (V x).testBit i = true then (1 : Int32) else 0)) (by rw [← hz, if_neg (by rw [ht, lj_1] at h8; simp only [decide_eq_true_eq]; omega)]; rfl) ?_
    exact hret _ _ _ _ hw d_N_hasBit_25
  · refine lv_iconst (v := nI 1) hx hb d_N_hasBit_20 (by decide +kernel) ?_
    refine lv_goto (tgt := 25) hx hb d_N_hasBit_21 (by decide) ?_
    refine sw_i (y := (if (V x).testBit i = true then (1 : Int32) else 0)) (by rw [← hz, if_pos (by rw [ht, lj_1] at h8; simp only [decide_eq_true_eq]; omega)]; rfl) ?_
    exact hret _ _ _ _ hw d_N_hasBit_25
end
section
/-! Natural: shifts, one more, one bit -/
theorem dgs (y s : Nat) (hs : s ≤ 28) : y / 2 ^ (28 - s) % vB = (y / vB % vB * 2 ^ s + y % vB / 2 ^ (28 - s)) % vB := by
  have e1 : vB = 2 ^ s * 2 ^ (28 - s) := by rw [← Nat.pow_add, show s + (28 - s) = 28 by omega]; rfl
  have hp : 0 < 2 ^ (28 - s) := Nat.two_pow_pos _
  have e2 : y / 2 ^ (28 - s) = y / vB * 2 ^ s + y % vB / 2 ^ (28 - s) := by
    have e3 : y = y % vB + 2 ^ (28 - s) * (y / vB * 2 ^ s) := by
      have := Nat.mod_add_div y vB
      have e4 : 2 ^ (28 - s) * (y / vB * 2 ^ s) = vB * (y / vB) := by
        conv => rhs; rw [e1]
        have : (2 ^ s * 2 ^ (28 - s)) = vB := e1.symm
        rw [← e1]
        conv => rhs; rw [e1]
        grind
      omega
    conv => lhs; rw [e3]
    rw [Nat.add_mul_div_left _ _ hp]
    omega
  rw [e2, Nat.add_mod, Nat.mul_mod]
  conv => rhs; rw [Nat.add_mod, Nat.mul_mod]
  simp only [Nat.mod_mod]
/-- the digits of a number times 2^n -/
theorem up_dg (v n i : Nat) : v * 2 ^ n / vB ^ (n / 28 + (i + 1)) % vB = (v / vB ^ (i + 1) % vB * 2 ^ (n % 28) + v / vB ^ i % vB / 2 ^ (28 - n % 28)) % vB := by
  have hm : n % 28 < 28 := Nat.mod_lt _ (by decide)
  have e1 : v * 2 ^ n / vB ^ (n / 28 + (i + 1)) = v / vB ^ i / 2 ^ (28 - n % 28) := by
    have h1 : 2 ^ n = 2 ^ (28 * (n / 28)) * 2 ^ (n % 28) := by rw [← Nat.pow_add, Nat.div_add_mod]
    have h2 : vB ^ (n / 28 + (i + 1)) = 2 ^ (28 * (n / 28)) * 2 ^ (n % 28) * (vB ^ i * 2 ^ (28 - n % 28)) := by
      rw [vB_two, vB_two, ← Nat.pow_add, ← Nat.pow_add, ← Nat.pow_add]; congr 1; omega
    rw [h1, h2, Nat.mul_comm v, Nat.mul_div_mul_left _ _ (by rw [← Nat.pow_add]; exact Nat.two_pow_pos _), Nat.div_div_eq_div_mul]
  rw [e1, dgs _ _ (by omega)]
  rw [Nat.pow_succ, ← Nat.div_div_eq_div_mul]
theorem up_dg0 (v n : Nat) : v * 2 ^ n / vB ^ (n / 28) % vB = (v / vB ^ 0 % vB * 2 ^ (n % 28)) % vB := by
  have h1 : 2 ^ n = vB ^ (n / 28) * 2 ^ (n % 28) := by rw [vB_two, ← Nat.pow_add, Nat.div_add_mod]
  rw [h1, ← Nat.mul_assoc, Nat.mul_comm v, Nat.mul_assoc, Nat.mul_div_cancel_left _ (Nat.pow_pos vB_pos), Nat.pow_zero, Nat.div_one, Nat.mul_mod]
  conv => rhs; rw [Nat.mul_mod]
  simp only [Nat.mod_mod]
theorem up_dgz {v n j : Nat} (h : j < n / 28) : v * 2 ^ n / vB ^ j % vB = 0 := by
  have h1 : 2 ^ n = vB ^ j * (vB * 2 ^ (n - 28 * (j + 1))) := by
    rw [vB_two, show vB = 2 ^ 28 from rfl, ← Nat.pow_add, ← Nat.pow_add]; congr 1; omega
  have h2 : v * 2 ^ n = vB ^ j * (v * 2 ^ (n - 28 * (j + 1)) * vB) := by rw [h1]; grind
  rw [h2, Nat.mul_div_cancel_left _ (Nat.pow_pos vB_pos), Nat.mul_mod_left]
theorem up_lt {v n k : Nat} (h : v < vB ^ k) : v * 2 ^ n < vB ^ (k + n / 28 + 1) := by
  have h1 : 2 ^ n < vB ^ (n / 28 + 1) := by
    rw [vB_two]; exact Nat.pow_lt_pow_right (by decide) (by omega)
  have := vB_mul h h1
  rw [Nat.add_assoc]; exact this
theorem dn_dg (v n i : Nat) : v / 2 ^ n / vB ^ i % vB = (v / vB ^ (n / 28 + i + 1) % vB * 2 ^ (28 - n % 28) + v / vB ^ (n / 28 + i) % vB / 2 ^ (n % 28)) % vB := by
  have hm : n % 28 < 28 := Nat.mod_lt _ (by decide)
  have e1 : v / 2 ^ n / vB ^ i = v / vB ^ (n / 28 + i) / 2 ^ (28 - (28 - n % 28)) := by
    rw [Nat.div_div_eq_div_mul, Nat.div_div_eq_div_mul, vB_two, vB_two, ← Nat.pow_add, ← Nat.pow_add]
    congr 2; omega
  rw [e1, dgs _ _ (by omega), Nat.pow_succ, ← Nat.div_div_eq_div_mul, show 28 - (28 - n % 28) = n % 28 by omega]
/-- the machine's words for it -/
theorem sh_or {a b s : Nat} (hs : s < 28) (ha : a < 268435456) (hb : b < 268435456) : (lN a <<< ((nI s).toInt64 &&& 63) ||| lN b >>> ((nI (28 - s)).toInt64 &&& 63)) &&& 268435455 = lN ((a * 2 ^ s + b / 2 ^ (28 - s)) % vB) := by
  have h1 : 2 ^ s ≤ 2 ^ 27 := Nat.pow_le_pow_right (by decide) (by omega)
  have h2 : a * 2 ^ s ≤ 268435456 * 2 ^ 27 := Nat.mul_le_mul (by omega) h1
  have h3 : b / 2 ^ (28 - s) < 2 ^ s := by
    apply Nat.div_lt_of_lt_mul
    rw [← Nat.pow_add, show 28 - s + s = 28 by omega]; exact hb
  have e27 : (2 : Nat) ^ 27 = 134217728 := rfl
  rw [wb_shl a (by omega), lN_shrN (by omega) (by omega), g_or (k := s) rfl h3 (by omega), lN_lim, wb_mask (by omega) (by decide)]
  rfl
theorem sh_orD {a b s : Nat} (hs : s < 28) (ha : a < 268435456) (hb : b < 268435456) : (lN b >>> ((nI s).toInt64 &&& 63) ||| lN a <<< ((nI (28 - s)).toInt64 &&& 63)) &&& 268435455 = lN ((a * 2 ^ (28 - s) + b / 2 ^ s) % vB) := by
  have h1 : 2 ^ (28 - s) ≤ 2 ^ 28 := Nat.pow_le_pow_right (by decide) (by omega)
  have h2 : a * 2 ^ (28 - s) ≤ 268435456 * 2 ^ 28 := Nat.mul_le_mul (by omega) h1
  have h3 : b / 2 ^ s < 2 ^ (28 - s) := by
    apply Nat.div_lt_of_lt_mul
    rw [← Nat.pow_add, show s + (28 - s) = 28 by omega]; exact hb
  have e28 : (2 : Nat) ^ 28 = 268435456 := rfl
  rw [wb_shl a (by omega), lN_shrN (by omega) (by omega), g_or' (k := 28 - s) rfl h3 (by omega), lN_lim, wb_mask (by omega) (by decide), Nat.add_comm]
  rfl
theorem sh_l0 {a s : Nat} (hs : s < 28) (ha : a < 268435456) : lN a <<< ((nI s).toInt64 &&& 63) &&& 268435455 = lN (a * 2 ^ s % vB) := by
  have h1 : 2 ^ s ≤ 2 ^ 27 := Nat.pow_le_pow_right (by decide) (by omega)
  have h2 : a * 2 ^ s ≤ 268435456 * 2 ^ 27 := Nat.mul_le_mul (by omega) h1
  have e27 : (2 : Nat) ^ 27 = 134217728 := rfl
  rw [wb_shl a (by omega), lN_lim, wb_mask (by omega) (by decide)]
  rfl
theorem fD_evL {v n : Nat} {f : Nat → Int64} (hv : v < vB ^ n) (h : ∀ j, j < n → f j = fD v j) : lm_ev b28 (nd f) n = (v : Int) := by
  rw [lm_congr (g := nd (fD v)) (fun j hj => by unfold nd; rw [h j hj]), fD_ev, Nat.mod_eq_of_lt hv]

set_option maxRecDepth 100000 in
set_option maxHeartbeats 4000000 in
theorem k_N_takeRaised (l : Launch) (T : wT) (V : Nat → Nat) (K : wUt) (I : wIt) (O : wOt) (x a n : Nat) (hi : x < 34) (ha : a < 34) (hxa : a ≠ x) (hn : n < 2147483648) (hk : kD (V a) + n / 28 ≤ 74) (hV : ∀ n, n < 34 → V n < vLim) : Met l y_N_takeRaised (.code y_N_takeRaised c_N_takeRaised 11 none :: bg) ({ frames := 1, cells := 0, slots := 0, locals := 22 } : Room) (mP T (fF V) (fU V) K I O [.ref (wa T x), .ref (wa T a), .int (nI n)]) (mQv T (fF (va_up V x (V a * 2 ^ n))) (fU (va_up V x (V a * 2 ^ n))) K I O) 0 0 (wA T) := by
  refine wM_v (by decide) (Nat.le_of_ble_eq_true rfl) ?_
  intro p e R s m args below meth c Q ls hx hb hC hRf hRl hret hl hw
  have hRf : 1 ≤ R.frames := hRf
  have hRl : 22 ≤ R.locals := hRl
  have hl : lv_has ls 11 [(0, .ref (wa T x)), (1, .ref (wa T a)), (2, .int (nI n))] := hl
  have hm : n % 28 < 28 := Nat.mod_lt _ (by decide)
  refine lv_iload_n hx hb d_N_takeRaised_0 rfl (lv_at hl 2 rfl) ?_
  refine lv_bipush (v := nI 28) hx hb d_N_takeRaised_1 (by decide +kernel) ?_
  refine n_idiv hx hb d_N_takeRaised_3 (by omega) (by omega) (by omega) ?_
  refine lv_istore_n hx hb d_N_takeRaised_4 rfl hl (by decide) rfl (fun ls hl => ?_)
  have hl : lv_has ls 11 [(3, .int (nI (n / 28))), (0, .ref (wa T x)), (1, .ref (wa T a)), (2, .int (nI n))] := hl
  refine lv_iload_n hx hb d_N_takeRaised_5 rfl (lv_at hl 3 rfl) ?_
  refine lv_bipush (v := nI 28) hx hb d_N_takeRaised_6 (by decide +kernel) ?_
  refine n_irem hx hb d_N_takeRaised_8 (by omega) (by omega) (by omega) ?_
  refine lv_istore hx hb d_N_takeRaised_9 hl (by decide) rfl (fun ls hl => ?_)
  have hl : lv_has ls 11 [(4, .int (nI (n % 28))), (3, .int (nI (n / 28))), (0, .ref (wa T x)), (1, .ref (wa T a)), (2, .int (nI n))] := hl
  refine lv_aload_n hx hb d_N_takeRaised_11 rfl (lv_at hl 3 rfl) ?_
  refine wg_Natural_used hx hb hC hw (by omega) bw_45 d_N_takeRaised_12 ?_
  refine sw_i (y := nI (kD (V a))) (rfl) ?_
  refine lv_iload_n hx hb d_N_takeRaised_15 rfl (lv_at hl 1 rfl) ?_
  refine n_iadd hx hb d_N_takeRaised_16 ?_
  refine lv_iconst (v := nI 1) hx hb d_N_takeRaised_17 (by decide +kernel) ?_
  refine n_iadd hx hb d_N_takeRaised_18 ?_
  refine lv_istore hx hb d_N_takeRaised_19 hl (by decide) rfl (fun ls hl => ?_)
  have hl : lv_has ls 11 [(5, .int (nI (((kD (V a)) + (n / 28)) + 1))), (4, .int (nI (n % 28))), (3, .int (nI (n / 28))), (0, .ref (wa T x)), (1, .ref (wa T a)), (2, .int (nI n))] := hl
  refine lv_lconst (v := 0) hx hb d_N_takeRaised_21 (by decide +kernel) ?_
  refine lv_lstore hx hb d_N_takeRaised_22 hl (by decide) rfl (fun ls hl => ?_)
  have hl : lv_has ls 11 [(6, .long (0 : Int64)), (5, .int (nI (((kD (V a)) + (n / 28)) + 1))), (4, .int (nI (n % 28))), (3, .int (nI (n / 28))), (0, .ref (wa T x)), (1, .ref (wa T a)), (2, .int (nI n))] := hl
  refine lv_aload_n hx hb d_N_takeRaised_24 rfl (lv_at hl 5 rfl) ?_
  refine wg_Natural_used hx hb hC hw (by omega) bw_45 d_N_takeRaised_25 ?_
  refine sw_i (y := nI (kD (V a))) (rfl) ?_
  refine lv_istore hx hb d_N_takeRaised_28 hl (by decide) rfl (fun ls hl => ?_)
  have hl : lv_has ls 11 [(8, .int (nI (kD (V a)))), (6, .long (0 : Int64)), (5, .int (nI (((kD (V a)) + (n / 28)) + 1))), (4, .int (nI (n % 28))), (3, .int (nI (n / 28))), (0, .ref (wa T x)), (1, .ref (wa T a)), (2, .int (nI n))] := hl
  rw [← va_upx (fF V) x] at hw
  have lp : ∀ (q : Nat) (f : Nat → Int64) (ls : Array Slot) (H : Heap) (locs : List Loc), q ≤ kD (V a) → (∀ j, n / 28 + q < j → j ≤ n / 28 + kD (V a) → f j = fD (V a * 2 ^ n) j) → (∀ j, n / 28 + kD (V a) < j → f j = fD (V x) j) → lv_has ls 11 [(8, .int (nI q)), (6, .long (lN (V a / vB ^ q % vB))), (5, .int (nI (kD (V a) + n / 28 + 1))), (4, .int (nI (n % 28))), (3, .int (nI (n / 28))), (0, .ref (wa T x)), (1, .ref (wa T a)), (2, .int (nI n))] → wH T (va_up (fF V) x f) (fU V) K I O (wA T) s s.heap H locs → W p l e R s m args below meth c H locs 0 0 Q (F0 m 30 ls []) := by
    intro q
    induction q with
    | zero =>
      intro f ls H locs hq h1 h2 hl hw
      refine lv_iload hx hb d_N_takeRaised_30 (lv_at hl 0 rfl) ?_
      refine n_if_le (tgt := 83) hx hb d_N_takeRaised_32 (by decide) (by omega) (fun h0 => ?_) (fun h0 => ?_)
      · refine lv_aload_n hx hb d_N_takeRaised_83 rfl (lv_at hl 5 rfl) ?_
        refine wg_Natural_limbs hx hb hC hw (by omega) bw_43 d_N_takeRaised_84 ?_
        refine lv_iload_n hx hb d_N_takeRaised_87 rfl (lv_at hl 4 rfl) ?_
        refine lv_lload hx hb d_N_takeRaised_88 (lv_at hl 1 rfl) ?_
        refine lv_iload hx hb d_N_takeRaised_90 (lv_at hl 3 rfl) ?_
        refine lv_lshl hx hb d_N_takeRaised_92 rfl ?_
        refine lv_ldc2 (v := 268435455) hx hb hC.ow (hC.hts bw_300) d_N_takeRaised_93 ?_
        refine lv_land hx hb d_N_takeRaised_96 ?_
        refine sw_l (y := lN (V a / vB ^ 0 % vB * 2 ^ (n % 28) % vB)) (sh_l0 (by omega) (dg_lt _ _)) ?_
        refine ws_limbs hx hb hw (by omega) (by omega) d_N_takeRaised_97 (fun H locs hw => ?_)
        refine lv_iconst (v := nI 0) hx hb d_N_takeRaised_98 (by decide +kernel) ?_
        refine lv_istore hx hb d_N_takeRaised_99 hl (by decide) rfl (fun ls hl => ?_)
        have hl : lv_has ls 11 [(8, .int (nI 0)), (6, .long (lN (V a / vB ^ 0 % vB))), (5, .int (nI (kD (V a) + n / 28 + 1))), (4, .int (nI (n % 28))), (3, .int (nI (n / 28))), (0, .ref (wa T x)), (1, .ref (wa T a)), (2, .int (nI n))] := hl
        rw [bx_uu, va_up_self] at hw
        generalize hf : vp_updL f (n / 28) (lN (V a / vB ^ 0 % vB * 2 ^ (n % 28) % vB)) = f1 at hw
        have g1 : ∀ j, n / 28 ≤ j → j ≤ n / 28 + kD (V a) → f1 j = fD (V a * 2 ^ n) j := fun j a1 a2 => by
          rw [← hf]
          by_cases ej : j = n / 28
          · rw [ej, pk_uLs, fD_lN, up_dg0]
          · rw [pk_uLn ej]; exact h1 j (by omega) a2
        have g2 : ∀ j, n / 28 + kD (V a) < j → f1 j = fD (V x) j := fun j a1 => by rw [← hf, pk_uLn (by omega)]; exact h2 j a1
        clear h1 h2
        have lq : ∀ (z9 i : Nat) (g : Nat → Int64) (ls : Array Slot) (H : Heap) (locs : List Loc), (n / 28) - i = z9 → i ≤ (n / 28) → (∀ j, j < i → g j = 0) → (∀ j, i ≤ j → g j = f1 j) →  lv_has ls 11 [(8, .int (nI i)), (6, .long (lN (V a / vB ^ 0 % vB))), (5, .int (nI (kD (V a) + n / 28 + 1))), (4, .int (nI (n % 28))), (3, .int (nI (n / 28))), (0, .ref (wa T x)), (1, .ref (wa T a)), (2, .int (nI n))] → wH T (va_up (fF V) x g) (fU V) K I O (wA T) s s.heap H locs → W p l e R s m args below meth c H locs 0 0 Q (F0 m 101 ls []) := by
          intro z9
          induction z9 with
          | zero =>
            intro i g ls H locs hn hle h1 h2 hl hw
            refine lv_iload hx hb d_N_takeRaised_101 (lv_at hl 0 rfl) ?_
            refine lv_iload_n hx hb d_N_takeRaised_103 rfl (lv_at hl 4 rfl) ?_
            refine n_icmp_ge (tgt := 121) hx hb d_N_takeRaised_104 (by decide) (by omega) (by omega) (fun h0 => ?_) (fun h0 => ?_)
            · have e9 : n / 28 = i := by omega
              subst e9
              refine lv_aload_n hx hb d_N_takeRaised_121 rfl (lv_at hl 5 rfl) ?_
              refine lv_iload hx hb d_N_takeRaised_122 (lv_at hl 2 rfl) ?_
              have s0 : ∀ j, j < kD (V a) + n / 28 + 1 → g j = fD (V a * 2 ^ n) j := fun j hj => by
                by_cases ej : j < n / 28
                · rw [h1 j ej, fD_lN, up_dgz ej]; decide +kernel
                · rw [h2 j (by omega)]; exact g1 j (by omega) (by omega)
              have hW := up_lt (n := n) (kD_lt (hV a ha))
              refine wcV_v (As := [.int (nI (kD (V a) + n / 28 + 1))]) hx hb hC hw (k_N_settle l T (va_up (fF V) x g) (fU V) K I O x (kD (V x)) (kD (V a) + n / 28 + 1) (V a * 2 ^ n) hi rfl (kD_le _) (by omega) (fun j hj => by rw [va_up_self]; unfold nd; rw [s0 j hj]; exact fD_in _ _) (fun j a1 a2 a3 => by rw [va_up_self, h2 j (by omega), g2 j (by omega)]; exact fD_zero (hV x hi) a2) (by rw [va_up_self]; exact fD_evL hW s0)) lk_N_39 rfl rfl ⟨by show 0 + 1 ≤ R.frames; omega, by show 8 + (3 + 11) + 0 ≤ R.locals; omega⟩ (by omega) (we_Natural (by omega)) rfl rfl hl.1 rfl (Nat.le_of_ble_eq_true rfl) ⟨Nat.zero_le _, Nat.zero_le _⟩ d_N_takeRaised_124 (fun H locs hw => ?_)
              rw [bx_uu, fF_up, fU_up] at hw
              exact hret _ _ _ _ hw d_N_takeRaised_127
            · exact absurd h0 (by omega)
          | succ z9 ih =>
            intro i g ls H locs hn hle h1 h2 hl hw
            refine lv_iload hx hb d_N_takeRaised_101 (lv_at hl 0 rfl) ?_
            refine lv_iload_n hx hb d_N_takeRaised_103 rfl (lv_at hl 4 rfl) ?_
            refine n_icmp_ge (tgt := 121) hx hb d_N_takeRaised_104 (by decide) (by omega) (by omega) (fun h0 => ?_) (fun h0 => ?_)
            · exact absurd h0 (by omega)
            · refine lv_aload_n hx hb d_N_takeRaised_107 rfl (lv_at hl 5 rfl) ?_
              refine wg_Natural_limbs hx hb hC hw (by omega) bw_43 d_N_takeRaised_108 ?_
              refine lv_iload hx hb d_N_takeRaised_111 (lv_at hl 0 rfl) ?_
              refine lv_lconst (v := 0) hx hb d_N_takeRaised_113 (by decide +kernel) ?_
              refine ws_limbs hx hb hw (by omega) (by omega) d_N_takeRaised_114 (fun H locs hw => ?_)
              refine lv_iinc (v := nI (i + 1)) hx hb d_N_takeRaised_115 hl (k := 0) rfl (nI_add _ 1) (by decide) rfl (fun ls hl => ?_)
              have hl : lv_has ls 11 [(8, .int (nI (i + 1))), (6, .long (lN (V a / vB ^ 0 % vB))), (5, .int (nI (kD (V a) + n / 28 + 1))), (4, .int (nI (n % 28))), (3, .int (nI (n / 28))), (0, .ref (wa T x)), (1, .ref (wa T a)), (2, .int (nI n))] := hl
              refine lv_goto (tgt := 101) hx hb d_N_takeRaised_118 (by decide) ?_
              rw [bx_uu, va_up_self] at hw
              refine ih (i + 1) _ ls H locs (by omega) (by omega) (fun j hj => ?_) (fun j hj => ?_) hl hw
              · by_cases ej : j = i
                · rw [ej, pk_uLs]
                · rw [pk_uLn ej]; exact h1 j (by omega)
              · rw [pk_uLn (by omega)]; exact h2 j (by omega)
        exact lq (n / 28) 0 f1 ls _ _ (by omega) (by omega) (fun j h => absurd h (by omega)) (fun _ _ => rfl) hl hw
      · exact absurd h0 (by omega)
    | succ q ih =>
      intro f ls H locs hq h1 h2 hl hw
      refine lv_iload hx hb d_N_takeRaised_30 (lv_at hl 0 rfl) ?_
      refine n_if_le (tgt := 83) hx hb d_N_takeRaised_32 (by decide) (by omega) (fun h0 => ?_) (fun h0 => ?_)
      · exact absurd h0 (by omega)
      · refine lv_aload_n hx hb d_N_takeRaised_35 rfl (lv_at hl 6 rfl) ?_
        refine wg_Natural_limbs hx hb hC hw (by omega) bw_43 d_N_takeRaised_36 ?_
        refine lv_iload hx hb d_N_takeRaised_39 (lv_at hl 0 rfl) ?_
        refine lv_iconst (v := nI 1) hx hb d_N_takeRaised_41 (by decide +kernel) ?_
        refine n_isub hx hb d_N_takeRaised_42 (by omega) ?_
        refine wl_limbs hx hb hw (by omega) (by omega) d_N_takeRaised_43 ?_
        refine sw_l (y := lN (V a / vB ^ q % vB)) (by rw [va_up_ne _ _ hxa]; rfl) ?_
        refine lv_lstore hx hb d_N_takeRaised_44 hl (by decide) rfl (fun ls hl => ?_)
        have hl : lv_has ls 11 [(9, .long (lN (V a / vB ^ q % vB))), (8, .int (nI (q + 1))), (6, .long (lN (V a / vB ^ (q + 1) % vB))), (5, .int (nI (kD (V a) + n / 28 + 1))), (4, .int (nI (n % 28))), (3, .int (nI (n / 28))), (0, .ref (wa T x)), (1, .ref (wa T a)), (2, .int (nI n))] := hl
        refine lv_aload_n hx hb d_N_takeRaised_46 rfl (lv_at hl 6 rfl) ?_
        refine wg_Natural_limbs hx hb hC hw (by omega) bw_43 d_N_takeRaised_47 ?_
        refine lv_iload_n hx hb d_N_takeRaised_50 rfl (lv_at hl 5 rfl) ?_
        refine lv_iload hx hb d_N_takeRaised_51 (lv_at hl 1 rfl) ?_
        refine n_iadd hx hb d_N_takeRaised_53 ?_
        refine lv_lload hx hb d_N_takeRaised_54 (lv_at hl 2 rfl) ?_
        refine lv_iload hx hb d_N_takeRaised_56 (lv_at hl 4 rfl) ?_
        refine lv_lshl hx hb d_N_takeRaised_58 rfl ?_
        refine lv_lload hx hb d_N_takeRaised_59 (lv_at hl 0 rfl) ?_
        refine lv_bipush (v := nI 28) hx hb d_N_takeRaised_61 (by decide +kernel) ?_
        refine lv_iload hx hb d_N_takeRaised_63 (lv_at hl 4 rfl) ?_
        refine n_isub hx hb d_N_takeRaised_65 (by omega) ?_
        refine lv_lshr hx hb d_N_takeRaised_66 rfl ?_
        refine lv_lor hx hb d_N_takeRaised_67 ?_
        refine lv_ldc2 (v := 268435455) hx hb hC.ow (hC.hts bw_300) d_N_takeRaised_68 ?_
        refine lv_land hx hb d_N_takeRaised_71 ?_
        refine sw_l (y := lN (V a * 2 ^ n / vB ^ (n / 28 + (q + 1)) % vB)) (by rw [sh_or (by omega) (dg_lt _ _) (dg_lt _ _), up_dg]) ?_
        refine ws_limbs hx hb hw (by omega) (by omega) d_N_takeRaised_72 (fun H locs hw => ?_)
        refine lv_lload hx hb d_N_takeRaised_73 (lv_at hl 0 rfl) ?_
        refine lv_lstore hx hb d_N_takeRaised_75 hl (by decide) rfl (fun ls hl => ?_)
        have hl : lv_has ls 11 [(6, .long (lN (V a / vB ^ q % vB))), (9, .long (lN (V a / vB ^ q % vB))), (8, .int (nI (q + 1))), (5, .int (nI (kD (V a) + n / 28 + 1))), (4, .int (nI (n % 28))), (3, .int (nI (n / 28))), (0, .ref (wa T x)), (1, .ref (wa T a)), (2, .int (nI n))] := hl
        refine lv_iinc (v := nI q) hx hb d_N_takeRaised_77 hl (k := 2) rfl ((i32_m1 _).trans (nI_pred q)) (by decide) rfl (fun ls hl => ?_)
        have hl : lv_has ls 11 [(8, .int (nI q)), (6, .long (lN (V a / vB ^ q % vB))), (9, .long (lN (V a / vB ^ q % vB))), (5, .int (nI (kD (V a) + n / 28 + 1))), (4, .int (nI (n % 28))), (3, .int (nI (n / 28))), (0, .ref (wa T x)), (1, .ref (wa T a)), (2, .int (nI n))] := hl
        refine lv_goto (tgt := 30) hx hb d_N_takeRaised_80 (by decide) ?_
        rw [bx_uu, va_up_self] at hw
        have hl := lv_sub hl [0, 1, 3, 4, 5, 6, 7, 8] rfl
        have hl : lv_has ls 11 [(8, .int (nI q)), (6, .long (lN (V a / vB ^ q % vB))), (5, .int (nI (kD (V a) + n / 28 + 1))), (4, .int (nI (n % 28))), (3, .int (nI (n / 28))), (0, .ref (wa T x)), (1, .ref (wa T a)), (2, .int (nI n))] := hl
        refine ih _ ls H locs (by omega) (fun j a1 a2 => ?_) (fun j a1 => ?_) hl hw
        · by_cases ej : j = n / 28 + (q + 1)
          · rw [ej, pk_uLs, fD_lN]
          · rw [pk_uLn ej]; exact h1 j (by omega) a2
        · rw [pk_uLn (by omega)]; exact h2 j a1
  have e9 : (0 : Int64) = lN (V a / vB ^ kD (V a) % vB) := by rw [Nat.div_eq_of_lt (kD_lt (hV a ha)), Nat.zero_mod]; rfl
  rw [e9] at hl
  exact lp (kD (V a)) (fD (V x)) ls _ _ (Nat.le_refl _) (fun j a1 a2 => absurd a1 (by omega)) (fun _ _ => rfl) hl hw
end
section
/-! Natural: lowered, one more, bits below -/
section MB
variable {p : Program} {l : Launch} {e : Env} {R : Room} {s : State} {m : MethodId} {args : Array Value} {below : List Frame} {meth : Method} {c : Code} {H H0 : Heap} {locs : List Loc} {cells slots : Nat} {Q : State → Prop}
variable {cc : ByteArray} {pc maxL index : Nat} {ls : Array Slot} {rest : List Value} {own : String}
theorem wm_max0 {a b : Nat} (hx : p.tables.exec = Jvm.exec) (hb : c.code = cc) (hC : wC m c maxL s args own) (hlk : Cond.methodLink own index Lib.Math.max.name ∈ bg) (ha : a < 1073741824) (hb2 : b < 1073741824) (hls : ls.size = maxL) (hf : 1 ≤ R.frames) (hl : (rest.map fun v => v.category).sum + 13 ≤ R.locals) (hcs : cells ≤ R.cells ∧ slots ≤ R.slots) (hdg : decode cc pc = .ok (.invokestatic index, 3)) (kk : W p l e R s m args below meth c H locs cells slots Q (F0 m (pc + 3) ls (.int (nI (a - b)) :: rest))) : W p l e R s m args below meth c H locs cells slots Q (F0 m pc ls (.int (nI 0) :: .int (nI a - nI b) :: rest)) := by
  refine va_mmax hx hb (hC.1.trans hls.symm) hC.2.2 (hC.hts hlk) (hC.hts ms_maxI) (hC.hts bw_14) (hC.hts mc_maxI) hf hl hcs.1 hcs.2 hdg (sw_i ?_ kk)
  by_cases h : b ≤ a
  · rw [pk_sub h, if_neg (nI_nlt (by omega) (by omega))]
  · rw [if_pos (show nI a - nI b < nI 0 from pk_sneg (by omega) (by omega)), show a - b = 0 by omega]
end MB
theorem dn_lt {v n k : Nat} (h : v < vB ^ k) : v / 2 ^ n < vB ^ (k - n / 28) := by
  have h1 : vB ^ (n / 28) ≤ 2 ^ n := by rw [vB_two]; exact Nat.pow_le_pow_right (by decide) (by omega)
  by_cases e : n / 28 ≤ k
  · apply Nat.div_lt_of_lt_mul
    have h2 : vB ^ (n / 28) * vB ^ (k - n / 28) = vB ^ k := by rw [← Nat.pow_add, show n / 28 + (k - n / 28) = k by omega]
    exact Nat.lt_of_lt_of_le h (by rw [← h2]; exact Nat.mul_le_mul_right _ h1)
  · have h2 : vB ^ k ≤ vB ^ (n / 28) := vB_le (by omega)
    rw [Nat.div_eq_of_lt (by omega)]
    exact Nat.pow_pos vB_pos
theorem fD_top {v : Nat} (h : v < vLim) (hk : 0 < kD v) : fD v (kD v - 1) ≠ 0 := fun q => by
  have h1 := kD_lt h
  have h2 := kD_ge hk
  have h3 : (fD v (kD v - 1)).toInt = 0 := by rw [q]; exact lj_0
  rw [fD_toInt] at h3
  have h4 : v / vB ^ (kD v - 1) < vB := by
    apply Nat.div_lt_of_lt_mul
    rw [← Nat.pow_succ, show (kD v - 1).succ = kD v by omega]; exact h1
  rw [Nat.mod_eq_of_lt h4] at h3
  have h5 := Nat.div_pos h2 (Nat.pow_pos vB_pos)
  omega
theorem ev_part {f g : Nat → Int} {B : Int} {i : Nat} (h0 : ∀ j, j < i → f j = 0) (h1 : ∀ j, i ≤ j → f j = g j) : ∀ {n : Nat}, i ≤ n → lm_ev B f n + lm_ev B g i = lm_ev B g n
  | 0, h => by rw [show i = 0 by omega]; simp [lm_ev0]
  | n + 1, h => by
    by_cases e : i = n + 1
    · rw [e, lm_congr (g := fun _ => 0) (fun j hj => h0 j (by omega))]
      have : ∀ k, lm_ev B (fun _ => 0) k = 0 := fun k => by
        induction k with
        | zero => rfl
        | succ k ih => rw [lm_evs, ih]; simp
      rw [this]; simp
    · rw [lm_evs, lm_evs, h1 n (by omega), ← ev_part h0 h1 (n := n) (by omega)]; omega
theorem nbb {v i : Nat} (hz : v % vB ^ (i / 28) = 0) : v % 2 ^ i = vB ^ (i / 28) * (v / vB ^ (i / 28) % vB % 2 ^ (i % 28)) := by
  have h1 : 2 ^ i = vB ^ (i / 28) * 2 ^ (i % 28) := by rw [vB_two, ← Nat.pow_add, Nat.div_add_mod]
  have h2 : 2 ^ (i % 28) ∣ vB := ⟨2 ^ (28 - i % 28), by rw [← Nat.pow_add, show i % 28 + (28 - i % 28) = 28 by have := Nat.mod_lt i (show 0 < 28 by decide); omega]; rfl⟩
  rw [h1, Nat.mod_mul, hz, Nat.zero_add, Nat.mod_mod_of_dvd _ h2]

set_option maxRecDepth 100000 in
set_option maxHeartbeats 4000000 in
theorem k_N_takeLowered (l : Launch) (T : wT) (V : Nat → Nat) (K : wUt) (I : wIt) (O : wOt) (x a n : Nat) (hi : x < 34) (ha : a < 34) (hn : n < 1073741824) (hV : ∀ n, n < 34 → V n < vLim) : Met l y_N_takeLowered (.code y_N_takeLowered c_N_takeLowered 11 none :: bg) ({ frames := 1, cells := 0, slots := 0, locals := 22 } : Room) (mP T (fF V) (fU V) K I O [.ref (wa T x), .ref (wa T a), .int (nI n)]) (mQv T (fF (va_up V x (V a / 2 ^ n))) (fU (va_up V x (V a / 2 ^ n))) K I O) 0 0 (wA T) := by
  refine wM_v (by decide) (Nat.le_of_ble_eq_true rfl) ?_
  intro p e R s m args below meth c Q ls hx hb hC hRf hRl hret hl hw
  have hRf : 1 ≤ R.frames := hRf
  have hRl : 22 ≤ R.locals := hRl
  have hl : lv_has ls 11 [(0, .ref (wa T x)), (1, .ref (wa T a)), (2, .int (nI n))] := hl
  have hm : n % 28 < 28 := Nat.mod_lt _ (by decide)
  have hk := kD_le (V a)
  refine lv_iload_n hx hb d_N_takeLowered_0 rfl (lv_at hl 2 rfl) ?_
  refine lv_bipush (v := nI 28) hx hb d_N_takeLowered_1 (by decide +kernel) ?_
  refine n_idiv hx hb d_N_takeLowered_3 (by omega) (by omega) (by omega) ?_
  refine lv_istore_n hx hb d_N_takeLowered_4 rfl hl (by decide) rfl (fun ls hl => ?_)
  have hl : lv_has ls 11 [(3, .int (nI (n / 28))), (0, .ref (wa T x)), (1, .ref (wa T a)), (2, .int (nI n))] := hl
  refine lv_iload_n hx hb d_N_takeLowered_5 rfl (lv_at hl 3 rfl) ?_
  refine lv_bipush (v := nI 28) hx hb d_N_takeLowered_6 (by decide +kernel) ?_
  refine n_irem hx hb d_N_takeLowered_8 (by omega) (by omega) (by omega) ?_
  refine lv_istore hx hb d_N_takeLowered_9 hl (by decide) rfl (fun ls hl => ?_)
  have hl : lv_has ls 11 [(4, .int (nI (n % 28))), (3, .int (nI (n / 28))), (0, .ref (wa T x)), (1, .ref (wa T a)), (2, .int (nI n))] := hl
  refine lv_aload_n hx hb d_N_takeLowered_11 rfl (lv_at hl 3 rfl) ?_
  refine wg_Natural_used hx hb hC hw (by omega) bw_45 d_N_takeLowered_12 ?_
  refine sw_i (y := nI (kD (V a))) (rfl) ?_
  refine lv_iload_n hx hb d_N_takeLowered_15 rfl (lv_at hl 1 rfl) ?_
  refine lv_isub hx hb d_N_takeLowered_16 ?_
  refine lv_iconst (v := nI 0) hx hb d_N_takeLowered_17 (by decide +kernel) ?_
  refine wm_max0 hx hb hC ml_340 (by omega) (by omega) hl.1 (by omega) (by show 0 + 13 ≤ R.locals; omega) ⟨Nat.zero_le _, Nat.zero_le _⟩ d_N_takeLowered_18 ?_
  refine lv_istore hx hb d_N_takeLowered_21 hl (by decide) rfl (fun ls hl => ?_)
  have hl : lv_has ls 11 [(5, .int (nI (kD (V a) - n / 28))), (4, .int (nI (n % 28))), (3, .int (nI (n / 28))), (0, .ref (wa T x)), (1, .ref (wa T a)), (2, .int (nI n))] := hl
  refine lv_aload_n hx hb d_N_takeLowered_23 rfl (lv_at hl 4 rfl) ?_
  refine lv_iload_n hx hb d_N_takeLowered_24 rfl (lv_at hl 2 rfl) ?_
  refine wcV_l (As := [.int (nI (n / 28))]) hx hb hC hw (k_N_at l T (fF V) (fU V) K I O a (n / 28) (kD (V a)) ha rfl (kD_le _) (by omega)) lk_N_19 rfl rfl ⟨by show 0 + 1 ≤ R.frames; omega, by show 8 + (2 + 11) + 0 ≤ R.locals; omega⟩ (by omega) (we_Natural (by omega)) rfl rfl hl.1 rfl (Nat.le_of_ble_eq_true rfl) ⟨Nat.zero_le _, Nat.zero_le _⟩ d_N_takeLowered_25 (fun H locs hw => ?_)
  refine sw_l (y := lN (V a / vB ^ (n / 28) % vB)) (at_fD (hV a ha) rfl) ?_
  refine lv_lstore hx hb d_N_takeLowered_28 hl (by decide) rfl (fun ls hl => ?_)
  have hl : lv_has ls 11 [(6, .long (lN (V a / vB ^ (n / 28) % vB))), (5, .int (nI (kD (V a) - n / 28))), (4, .int (nI (n % 28))), (3, .int (nI (n / 28))), (0, .ref (wa T x)), (1, .ref (wa T a)), (2, .int (nI n))] := hl
  refine lv_iconst (v := nI 0) hx hb d_N_takeLowered_30 (by decide +kernel) ?_
  refine lv_istore hx hb d_N_takeLowered_31 hl (by decide) rfl (fun ls hl => ?_)
  have hl : lv_has ls 11 [(8, .int (nI 0)), (6, .long (lN (V a / vB ^ (n / 28) % vB))), (5, .int (nI (kD (V a) - n / 28))), (4, .int (nI (n % 28))), (3, .int (nI (n / 28))), (0, .ref (wa T x)), (1, .ref (wa T a)), (2, .int (nI n))] := hl
  rw [← va_upx (fF V) x] at hw
  have lp : ∀ (z9 i : Nat) (f : Nat → Int64) (ls : Array Slot) (H : Heap) (locs : List Loc), (kD (V a) - n / 28) - i = z9 → i ≤ (kD (V a) - n / 28) → (∀ j, j < i → f j = fD (V a / 2 ^ n) j) → (∀ j, i ≤ j → f j = fD (V x) j) →  lv_has ls 11 [(8, .int (nI i)), (6, .long (lN (V a / vB ^ (n / 28 + i) % vB))), (5, .int (nI (kD (V a) - n / 28))), (4, .int (nI (n % 28))), (3, .int (nI (n / 28))), (0, .ref (wa T x)), (1, .ref (wa T a)), (2, .int (nI n))] → wH T (va_up (fF V) x f) (fU V) K I O (wA T) s s.heap H locs → W p l e R s m args below meth c H locs 0 0 Q (F0 m 33 ls []) := by
    intro z9
    induction z9 with
    | zero =>
      intro i f ls H locs hn hle h1 h2 hl hw
      refine lv_iload hx hb d_N_takeLowered_33 (lv_at hl 0 rfl) ?_
      refine lv_iload hx hb d_N_takeLowered_35 (lv_at hl 2 rfl) ?_
      refine n_icmp_ge (tgt := 87) hx hb d_N_takeLowered_37 (by decide) (by omega) (by omega) (fun h0 => ?_) (fun h0 => ?_)
      · have e9 : kD (V a) - n / 28 = i := by omega
        subst e9
        refine lv_aload_n hx hb d_N_takeLowered_87 rfl (lv_at hl 5 rfl) ?_
        refine lv_iload hx hb d_N_takeLowered_88 (lv_at hl 2 rfl) ?_
        refine wcV_v (As := [.int (nI (kD (V a) - n / 28))]) hx hb hC hw (k_N_settle l T (va_up (fF V) x f) (fU V) K I O x (kD (V x)) (kD (V a) - n / 28) (V a / 2 ^ n) hi rfl (kD_le _) (by omega) (fun j hj => by rw [va_up_self]; unfold nd; rw [h1 j hj]; exact fD_in _ _) (fun j a1 a2 a3 => by rw [va_up_self, h2 j a1]; exact fD_zero (hV x hi) a2) (by rw [va_up_self]; exact fD_evL (dn_lt (kD_lt (hV a ha))) h1)) lk_N_39 rfl rfl ⟨by show 0 + 1 ≤ R.frames; omega, by show 8 + (3 + 11) + 0 ≤ R.locals; omega⟩ (by omega) (we_Natural (by omega)) rfl rfl hl.1 rfl (Nat.le_of_ble_eq_true rfl) ⟨Nat.zero_le _, Nat.zero_le _⟩ d_N_takeLowered_90 (fun H locs hw => ?_)
        rw [bx_uu, fF_up, fU_up] at hw
        exact hret _ _ _ _ hw d_N_takeLowered_93
      · exact absurd h0 (by omega)
    | succ z9 ih =>
      intro i f ls H locs hn hle h1 h2 hl hw
      refine lv_iload hx hb d_N_takeLowered_33 (lv_at hl 0 rfl) ?_
      refine lv_iload hx hb d_N_takeLowered_35 (lv_at hl 2 rfl) ?_
      refine n_icmp_ge (tgt := 87) hx hb d_N_takeLowered_37 (by decide) (by omega) (by omega) (fun h0 => ?_) (fun h0 => ?_)
      · exact absurd h0 (by omega)
      · refine lv_aload_n hx hb d_N_takeLowered_40 rfl (lv_at hl 6 rfl) ?_
        refine lv_iload_n hx hb d_N_takeLowered_41 rfl (lv_at hl 4 rfl) ?_
        refine lv_iload hx hb d_N_takeLowered_42 (lv_at hl 0 rfl) ?_
        refine n_iadd hx hb d_N_takeLowered_44 ?_
        refine lv_iconst (v := nI 1) hx hb d_N_takeLowered_45 (by decide +kernel) ?_
        refine n_iadd hx hb d_N_takeLowered_46 ?_
        refine wcV_l (As := [.int (nI (((n / 28) + i) + 1))]) hx hb hC hw (k_N_at l T (va_up (fF V) x f) (fU V) K I O a (n / 28 + i + 1) (kD (V a)) ha rfl (kD_le _) (by omega)) lk_N_19 rfl rfl ⟨by show 0 + 1 ≤ R.frames; omega, by show 8 + (2 + 11) + 0 ≤ R.locals; omega⟩ (by omega) (we_Natural (by omega)) rfl rfl hl.1 rfl (Nat.le_of_ble_eq_true rfl) ⟨Nat.zero_le _, Nat.zero_le _⟩ d_N_takeLowered_47 (fun H locs hw => ?_)
        refine sw_l (y := lN (V a / vB ^ (n / 28 + i + 1) % vB)) (by rw [pv_alias (fun j hj => h2 j (by omega))]; exact at_fD (hV a ha) rfl) ?_
        refine lv_lstore hx hb d_N_takeLowered_50 hl (by decide) rfl (fun ls hl => ?_)
        have hl : lv_has ls 11 [(9, .long (lN (V a / vB ^ (n / 28 + i + 1) % vB))), (8, .int (nI i)), (6, .long (lN (V a / vB ^ (n / 28 + i) % vB))), (5, .int (nI (kD (V a) - n / 28))), (4, .int (nI (n % 28))), (3, .int (nI (n / 28))), (0, .ref (wa T x)), (1, .ref (wa T a)), (2, .int (nI n))] := hl
        refine lv_aload_n hx hb d_N_takeLowered_52 rfl (lv_at hl 6 rfl) ?_
        refine wg_Natural_limbs hx hb hC hw (by omega) bw_43 d_N_takeLowered_53 ?_
        refine lv_iload hx hb d_N_takeLowered_56 (lv_at hl 1 rfl) ?_
        refine lv_lload hx hb d_N_takeLowered_58 (lv_at hl 2 rfl) ?_
        refine lv_iload hx hb d_N_takeLowered_60 (lv_at hl 4 rfl) ?_
        refine lv_lshr hx hb d_N_takeLowered_62 rfl ?_
        refine lv_lload hx hb d_N_takeLowered_63 (lv_at hl 0 rfl) ?_
        refine lv_bipush (v := nI 28) hx hb d_N_takeLowered_65 (by decide +kernel) ?_
        refine lv_iload hx hb d_N_takeLowered_67 (lv_at hl 4 rfl) ?_
        refine n_isub hx hb d_N_takeLowered_69 (by omega) ?_
        refine lv_lshl hx hb d_N_takeLowered_70 rfl ?_
        refine lv_lor hx hb d_N_takeLowered_71 ?_
        refine lv_ldc2 (v := 268435455) hx hb hC.ow (hC.hts bw_300) d_N_takeLowered_72 ?_
        refine lv_land hx hb d_N_takeLowered_75 ?_
        refine sw_l (y := lN (V a / 2 ^ n / vB ^ i % vB)) (by rw [sh_orD (by omega) (dg_lt _ _) (dg_lt _ _), dn_dg]) ?_
        refine ws_limbs hx hb hw (by omega) (by omega) d_N_takeLowered_76 (fun H locs hw => ?_)
        refine lv_lload hx hb d_N_takeLowered_77 (lv_at hl 0 rfl) ?_
        refine lv_lstore hx hb d_N_takeLowered_79 hl (by decide) rfl (fun ls hl => ?_)
        have hl : lv_has ls 11 [(6, .long (lN (V a / vB ^ (n / 28 + i + 1) % vB))), (9, .long (lN (V a / vB ^ (n / 28 + i + 1) % vB))), (8, .int (nI i)), (5, .int (nI (kD (V a) - n / 28))), (4, .int (nI (n % 28))), (3, .int (nI (n / 28))), (0, .ref (wa T x)), (1, .ref (wa T a)), (2, .int (nI n))] := hl
        refine lv_iinc (v := nI (i + 1)) hx hb d_N_takeLowered_81 hl (k := 2) rfl (nI_add _ 1) (by decide) rfl (fun ls hl => ?_)
        have hl : lv_has ls 11 [(8, .int (nI (i + 1))), (6, .long (lN (V a / vB ^ (n / 28 + i + 1) % vB))), (9, .long (lN (V a / vB ^ (n / 28 + i + 1) % vB))), (5, .int (nI (kD (V a) - n / 28))), (4, .int (nI (n % 28))), (3, .int (nI (n / 28))), (0, .ref (wa T x)), (1, .ref (wa T a)), (2, .int (nI n))] := hl
        refine lv_goto (tgt := 33) hx hb d_N_takeLowered_84 (by decide) ?_
        rw [bx_uu, va_up_self] at hw
        have hl := lv_sub hl [0, 1, 3, 4, 5, 6, 7, 8] rfl
        have hl : lv_has ls 11 [(8, .int (nI (i + 1))), (6, .long (lN (V a / vB ^ (n / 28 + i + 1) % vB))), (5, .int (nI (kD (V a) - n / 28))), (4, .int (nI (n % 28))), (3, .int (nI (n / 28))), (0, .ref (wa T x)), (1, .ref (wa T a)), (2, .int (nI n))] := hl
        refine ih (i + 1) _ ls H locs (by omega) (by omega) (fun j hj => ?_) (fun j hj => ?_) hl hw
        · by_cases ej : j = i
          · rw [ej, pk_uLs, fD_lN]
          · rw [pk_uLn ej]; exact h1 j (by omega)
        · rw [pk_uLn (by omega)]; exact h2 j (by omega)
  exact lp (kD (V a) - n / 28) 0 (fD (V x)) ls _ _ (by omega) (by omega) (fun j h => absurd h (by omega)) (fun _ _ => rfl) hl hw
set_option maxRecDepth 100000 in
set_option maxHeartbeats 4000000 in
theorem k_N_increase (l : Launch) (T : wT) (V : Nat → Nat) (K : wUt) (I : wIt) (O : wOt) (x : Nat) (hi : x < 34) (hk : kD (V x) ≤ 74) (hV : ∀ n, n < 34 → V n < vLim) : Met l y_N_increase (.code y_N_increase c_N_increase 2 none :: bg) ({ frames := 1, cells := 0, slots := 0, locals := 21 } : Room) (mP T (fF V) (fU V) K I O [.ref (wa T x)]) (mQv T (fF (va_up V x (V x + 1))) (fU (va_up V x (V x + 1))) K I O) 0 0 (wA T) := by
  refine wM_v (by decide) (Nat.le_of_ble_eq_true rfl) ?_
  intro p e R s m args below meth c Q ls hx hb hC hRf hRl hret hl hw
  have hRf : 1 ≤ R.frames := hRf
  have hRl : 21 ≤ R.locals := hRl
  have hl : lv_has ls 2 [(0, .ref (wa T x))] := hl
  refine lv_iconst (v := nI 0) hx hb d_N_increase_0 (by decide +kernel) ?_
  refine lv_istore_n hx hb d_N_increase_1 rfl hl (by decide) rfl (fun ls hl => ?_)
  have hl : lv_has ls 2 [(1, .int (nI 0)), (0, .ref (wa T x))] := hl
  rw [← va_upx (fF V) x] at hw
  have fin : ∀ (i : Nat) (f : Nat → Int64) (ls : Array Slot) (H : Heap) (locs : List Loc), i ≤ kD (V x) → (∀ j, j < i → f j = 0) → (∀ j, i ≤ j → f j = fD (V x) j) → lm_ev b28 (nd (fD (V x))) i = b28 ^ i - 1 → (i = kD (V x) ∨ nd (fD (V x)) i ≠ 268435455) → lv_has ls 2 [(1, .int (nI i)), (0, .ref (wa T x))] → wH T (va_up (fF V) x f) (fU V) K I O (wA T) s s.heap H locs → W p l e R s m args below meth c H locs 0 0 Q (F0 m 36 ls []) := by
    intro i f ls H locs hle h1 h2 h3 h4 hl hw
    refine lv_aload_n hx hb d_N_increase_36 rfl (lv_at hl 1 rfl) ?_
    refine wg_Natural_limbs hx hb hC hw (by omega) bw_43 d_N_increase_37 ?_
    refine lv_iload_n hx hb d_N_increase_40 rfl (lv_at hl 0 rfl) ?_
    refine lv_dup2_11 hx hb d_N_increase_41 rfl rfl ?_
    refine wl_limbs hx hb hw (by omega) (by omega) d_N_increase_42 ?_
    refine sw_l (y := fD (V x) i) (by rw [va_up_self]; exact h2 i (Nat.le_refl i)) ?_
    refine lv_lconst (v := 1) hx hb d_N_increase_43 (by decide +kernel) ?_
    refine lv_ladd hx hb d_N_increase_44 ?_
    refine ws_limbs hx hb hw (by omega) (by omega) d_N_increase_45 (fun H locs hw => ?_)
    refine lv_aload_n hx hb d_N_increase_46 rfl (lv_at hl 1 rfl) ?_
    refine lv_aload_n hx hb d_N_increase_47 rfl (lv_at hl 1 rfl) ?_
    refine wg_Natural_used hx hb hC hw (by omega) bw_45 d_N_increase_48 ?_
    refine sw_i (y := nI (kD (V x))) (rfl) ?_
    refine lv_iload_n hx hb d_N_increase_51 rfl (lv_at hl 0 rfl) ?_
    refine lv_iconst (v := nI 1) hx hb d_N_increase_52 (by decide +kernel) ?_
    refine n_iadd hx hb d_N_increase_53 ?_
    rw [bx_uu, va_up_self] at hw
    refine wm_maxI hx hb hC ml_340 (by omega) (by omega) hl.1 (by omega) (by show 1 + 13 ≤ R.locals; omega) ⟨Nat.zero_le _, Nat.zero_le _⟩ d_N_increase_54 ?_
    refine wp_Natural_used hx hb hC hw (by omega) bw_45 d_N_increase_57 (fun H locs hw => ?_)
    have hd := fD_in (V x) i
    have ht : (fD (V x) i + 1).toInt = nd (fD (V x)) i + 1 := by rw [lj_add (by rw [lj_1]; have h9 : 0 ≤ (fD (V x) i).toInt := hd.1; omega) (by rw [lj_1]; have h9 : (fD (V x) i).toInt < 268435456 := hd.2; omega), lj_1]; rfl
    have hd4 : nd (fD (V x)) i + 1 < 268435456 := by
      have h9 : nd (fD (V x)) i < 268435456 := hd.2
      rcases h4 with h5 | h5
      · rw [nd_0 (fD_zero (hV x hi) (by omega))]; decide
      · omega
    have pa : ∀ j, j < max (kD (V x)) (i + 1) → 0 ≤ nd (vp_updL f i (fD (V x) i + 1)) j ∧ nd (vp_updL f i (fD (V x) i + 1)) j < b28 := by
      intro j hj
      by_cases ej : j = i
      · rw [ej, nd_upd, ht]; exact ⟨by have := hd.1; omega, hd4⟩
      · rw [nd_updN ej]
        by_cases el : j < i
        · rw [nd_0 (h1 j el)]; decide
        · unfold nd; rw [h2 j (by omega)]; exact fD_in _ _
    have pz : ∀ j, max (kD (V x)) (i + 1) ≤ j → j < 75 → vp_updL f i (fD (V x) i + 1) j = 0 := by
      intro j a1 a2
      rw [pk_uLn (by omega), h2 j (by omega)]; exact fD_zero (hV x hi) (by omega)
    have pt : 0 < max (kD (V x)) (i + 1) → vp_updL f i (fD (V x) i + 1) (max (kD (V x)) (i + 1) - 1) ≠ 0 := by
      intro hp hq
      by_cases ej : max (kD (V x)) (i + 1) - 1 = i
      · rw [ej, pk_uLs] at hq
        have : (fD (V x) i + 1).toInt = 0 := by rw [hq]; exact lj_0
        have := hd.1; omega
      · rw [pk_uLn ej, h2 _ (by omega), show max (kD (V x)) (i + 1) - 1 = kD (V x) - 1 by omega] at hq
        exact fD_top (hV x hi) (by omega) hq
    have pe : lm_ev b28 (nd (vp_updL f i (fD (V x) i + 1))) (max (kD (V x)) (i + 1)) = ((V x + 1 : Nat) : Int) := by
      have e1 := nd_upd_ev (f := f) (k := i) (n := max (kD (V x)) (i + 1)) (x := fD (V x) i + 1) (by omega)
      have e2 := ev_part (B := b28) (f := nd f) (g := nd (fD (V x))) (i := i) (fun j hj => nd_0 (h1 j hj)) (fun j hj => by unfold nd; rw [h2 j hj]) (n := max (kD (V x)) (i + 1)) (by omega)
      have e3 : nd f i = nd (fD (V x)) i := by unfold nd; rw [h2 i (Nat.le_refl i)]
      rw [h3, fD_ev_k (hV x hi) (by omega)] at e2
      rw [e1, ht, e3]
      have e4 : (nd (fD (V x)) i + 1 - nd (fD (V x)) i) * b28 ^ i = b28 ^ i := by grind
      rw [e4]; omega
    obtain ⟨c1, c2, c3⟩ := nv_close (by omega) pa pz pt pe
    have hw := wH.canon hi hw c3
    rw [fF_up] at hw
    unfold uD fU at hret
    have e9 : va_up (fU V) x (nI (max (kD (V x)) (i + 1))) = fU (va_up V x (V x + 1)) := by rw [← fU_up]; unfold uD; rw [c2]
    rw [e9] at hw
    exact hret _ _ _ _ hw d_N_increase_60
  have lp : ∀ (z9 i : Nat) (f : Nat → Int64) (ls : Array Slot) (H : Heap) (locs : List Loc), (kD (V x)) - i = z9 → i ≤ (kD (V x)) → (∀ j, j < i → f j = 0) → (∀ j, i ≤ j → f j = fD (V x) j) → (lm_ev b28 (nd (fD (V x))) i = b28 ^ i - 1) →  lv_has ls 2 [(1, .int (nI i)), (0, .ref (wa T x))] → wH T (va_up (fF V) x f) (fU V) K I O (wA T) s s.heap H locs → W p l e R s m args below meth c H locs 0 0 Q (F0 m 2 ls []) := by
    intro z9
    induction z9 with
    | zero =>
      intro i f ls H locs hn hle h1 h2 h3 hl hw
      refine lv_iload_n hx hb d_N_increase_2 rfl (lv_at hl 0 rfl) ?_
      refine lv_aload_n hx hb d_N_increase_3 rfl (lv_at hl 1 rfl) ?_
      refine wg_Natural_used hx hb hC hw (by omega) bw_45 d_N_increase_4 ?_
      refine sw_i (y := nI (kD (V x))) (rfl) ?_
      refine n_icmp_ge (tgt := 36) hx hb d_N_increase_7 (by decide) (by omega) (by omega) (fun h0 => ?_) (fun h0 => ?_)
      · have e9 : kD (V x) = i := by omega
        exact fin i f ls H locs (by omega) h1 h2 h3 (Or.inl (by omega)) hl hw
      · exact absurd h0 (by omega)
    | succ z9 ih =>
      intro i f ls H locs hn hle h1 h2 h3 hl hw
      refine lv_iload_n hx hb d_N_increase_2 rfl (lv_at hl 0 rfl) ?_
      refine lv_aload_n hx hb d_N_increase_3 rfl (lv_at hl 1 rfl) ?_
      refine wg_Natural_used hx hb hC hw (by omega) bw_45 d_N_increase_4 ?_
      refine sw_i (y := nI (kD (V x))) (rfl) ?_
      refine n_icmp_ge (tgt := 36) hx hb d_N_increase_7 (by decide) (by omega) (by omega) (fun h0 => ?_) (fun h0 => ?_)
      · exact absurd h0 (by omega)
      · refine lv_aload_n hx hb d_N_increase_10 rfl (lv_at hl 1 rfl) ?_
        refine wg_Natural_limbs hx hb hC hw (by omega) bw_43 d_N_increase_11 ?_
        refine lv_iload_n hx hb d_N_increase_14 rfl (lv_at hl 0 rfl) ?_
        refine wl_limbs hx hb hw (by omega) (by omega) d_N_increase_15 ?_
        refine sw_l (y := fD (V x) i) (by rw [va_up_self]; exact h2 i (Nat.le_refl i)) ?_
        refine lv_ldc2 (v := 268435455) hx hb hC.ow (hC.hts bw_300) d_N_increase_16 ?_
        refine lc_ne (tgt := 36) hx hb d_N_increase_19 d_N_increase_20 (by decide) (fun h8 => ?_) (fun h8 => ?_)
        · exact fin i f ls H locs (by omega) h1 h2 h3 (Or.inr (fun q => h8 (by rw [i64_mask]; exact q))) hl hw
        · refine lv_aload_n hx hb d_N_increase_23 rfl (lv_at hl 1 rfl) ?_
          refine wg_Natural_limbs hx hb hC hw (by omega) bw_43 d_N_increase_24 ?_
          refine lv_iload_n hx hb d_N_increase_27 rfl (lv_at hl 0 rfl) ?_
          refine lv_lconst (v := 0) hx hb d_N_increase_28 (by decide +kernel) ?_
          refine ws_limbs hx hb hw (by omega) (by omega) d_N_increase_29 (fun H locs hw => ?_)
          refine lv_iinc (v := nI (i + 1)) hx hb d_N_increase_30 hl (k := 0) rfl (nI_add _ 1) (by decide) rfl (fun ls hl => ?_)
          have hl : lv_has ls 2 [(1, .int (nI (i + 1))), (0, .ref (wa T x))] := hl
          refine lv_goto (tgt := 2) hx hb d_N_increase_33 (by decide) ?_
          rw [bx_uu, va_up_self] at hw
          refine ih (i + 1) _ ls H locs (by omega) (by omega) (fun j hj => ?_) (fun j hj => ?_) ?_ hl hw
          · by_cases ej : j = i
            · rw [ej, pk_uLs]
            · rw [pk_uLn ej]; exact h1 j (by omega)
          · rw [pk_uLn (by omega)]; exact h2 j (by omega)
          · have e1 : nd (fD (V x)) i = 268435455 := by rw [i64_mask] at h8; exact h8
            rw [lm_evs, h3, e1, Int.pow_succ]; show b28 ^ i - 1 + 268435455 * b28 ^ i = b28 ^ i * 268435456 - 1; omega
  exact lp (kD (V x)) 0 (fD (V x)) ls _ _ (by omega) (by omega) (fun j h => absurd h (by omega)) (fun _ _ => rfl) (by rw [lm_ev0]; rfl) hl hw
set_option maxRecDepth 100000 in
set_option maxHeartbeats 4000000 in
theorem k_N_hasBitBelow (l : Launch) (T : wT) (V : Nat → Nat) (K : wUt) (I : wIt) (O : wOt) (x i : Nat) (hi : x < 34) (hb9 : i < 2147483648) (hV : ∀ n, n < 34 → V n < vLim) : Met l y_N_hasBitBelow (.code y_N_hasBitBelow c_N_hasBitBelow 4 (some .boolean) :: bg) ({ frames := 1, cells := 0, slots := 0, locals := 21 } : Room) (mP T (fF V) (fU V) K I O [.ref (wa T x), .int (nI i)]) (mQi T (if V x % 2 ^ i ≠ 0 then (1 : Int32) else 0) (fF V) (fU V) K I O) 0 0 (wA T) := by
  refine wM_z (by decide) (Nat.le_of_ble_eq_true rfl) (zN _) ?_
  intro p e R s m args below meth c Q ls hx hb hC hRf hRl hret hl hw
  have hRf : 1 ≤ R.frames := hRf
  have hRl : 21 ≤ R.locals := hRl
  have hl : lv_has ls 4 [(0, .ref (wa T x)), (1, .int (nI i))] := hl
  have hk := kD_le (V x)
  have hm : i % 28 < 28 := Nat.mod_lt _ (by decide)
  refine lv_iload_n hx hb d_N_hasBitBelow_0 rfl (lv_at hl 1 rfl) ?_
  refine lv_bipush (v := nI 28) hx hb d_N_hasBitBelow_1 (by decide +kernel) ?_
  refine n_idiv hx hb d_N_hasBitBelow_3 (by omega) (by omega) (by omega) ?_
  refine lv_aload_n hx hb d_N_hasBitBelow_4 rfl (lv_at hl 0 rfl) ?_
  refine wg_Natural_used hx hb hC hw (by omega) bw_45 d_N_hasBitBelow_5 ?_
  refine sw_i (y := nI (kD (V x))) (rfl) ?_
  refine wm_minI hx hb hC ml_531 (by omega) (by omega) hl.1 (by omega) (by show 0 + 13 ≤ R.locals; omega) ⟨Nat.zero_le _, Nat.zero_le _⟩ d_N_hasBitBelow_8 ?_
  refine lv_istore_n hx hb d_N_hasBitBelow_11 rfl hl (by decide) rfl (fun ls hl => ?_)
  have hl : lv_has ls 4 [(2, .int (nI (min (i / 28) (kD (V x))))), (0, .ref (wa T x)), (1, .int (nI i))] := hl
  refine lv_iconst (v := nI 0) hx hb d_N_hasBitBelow_12 (by decide +kernel) ?_
  refine lv_istore_n hx hb d_N_hasBitBelow_13 rfl hl (by decide) rfl (fun ls hl => ?_)
  have hl : lv_has ls 4 [(3, .int (nI 0)), (2, .int (nI (min (i / 28) (kD (V x))))), (0, .ref (wa T x)), (1, .int (nI i))] := hl
  have lp : ∀ (z9 t : Nat)  (ls : Array Slot) (H : Heap) (locs : List Loc), (min (i / 28) (kD (V x))) - t = z9 → t ≤ (min (i / 28) (kD (V x))) → (∀ j, j < t → fD (V x) j = 0) →  lv_has ls 4 [(3, .int (nI t)), (2, .int (nI (min (i / 28) (kD (V x))))), (0, .ref (wa T x)), (1, .int (nI i))] → wH T (fF V) (fU V) K I O (wA T) s s.heap H locs → W p l e R s m args below meth c H locs 0 0 Q (F0 m 14 ls []) := by
    intro z9
    induction z9 with
    | zero =>
      intro t  ls H locs hn hle h1 hl hw
      refine lv_iload_n hx hb d_N_hasBitBelow_14 rfl (lv_at hl 0 rfl) ?_
      refine lv_iload_n hx hb d_N_hasBitBelow_15 rfl (lv_at hl 1 rfl) ?_
      refine n_icmp_ge (tgt := 38) hx hb d_N_hasBitBelow_16 (by decide) (by omega) (by omega) (fun h0 => ?_) (fun h0 => ?_)
      · have e9 : min (i / 28) (kD (V x)) = t := by omega
        have hz : V x % vB ^ (i / 28) = 0 := by
          have e1 := fD_ev (V x) (min (i / 28) (kD (V x)))
          rw [e9, lm_congr (g := nd (fD 0)) (fun j hj => by rw [nd_0 (h1 j hj), nd_0 (fD0 j)]), nd_z fD0] at e1
          rw [← e9] at e1
          by_cases eq : i / 28 ≤ kD (V x)
          · rw [show min (i / 28) (kD (V x)) = i / 28 by omega] at e1; omega
          · rw [show min (i / 28) (kD (V x)) = kD (V x) by omega, Nat.mod_eq_of_lt (kD_lt (hV x hi))] at e1
            rw [show V x = 0 by omega]; exact Nat.zero_mod _
        have hnb := nbb hz
        refine lv_aload_n hx hb d_N_hasBitBelow_38 rfl (lv_at hl 2 rfl) ?_
        refine lv_iload_n hx hb d_N_hasBitBelow_39 rfl (lv_at hl 3 rfl) ?_
        refine lv_bipush (v := nI 28) hx hb d_N_hasBitBelow_40 (by decide +kernel) ?_
        refine n_idiv hx hb d_N_hasBitBelow_42 (by omega) (by omega) (by omega) ?_
        refine wcV_l (As := [.int (nI (i / 28))]) hx hb hC hw (k_N_at l T (fF V) (fU V) K I O x (i / 28) (kD (V x)) hi rfl (kD_le _) (by omega)) lk_N_19 rfl rfl ⟨by show 0 + 1 ≤ R.frames; omega, by show 8 + (2 + 11) + 0 ≤ R.locals; omega⟩ (by omega) (we_Natural (by omega)) rfl rfl hl.1 rfl (Nat.le_of_ble_eq_true rfl) ⟨Nat.zero_le _, Nat.zero_le _⟩ d_N_hasBitBelow_43 (fun H locs hw => ?_)
        refine sw_l (y := lN (V x / vB ^ (i / 28) % vB)) (at_fD (hV x hi) rfl) ?_
        have hd := dg_lt (V x) (i / 28)
        have hp1 : 0 < 2 ^ (i % 28) := Nat.two_pow_pos _
        have hp2 : 2 ^ (i % 28) ≤ 2 ^ 27 := Nat.pow_le_pow_right (by decide) (by omega)
        refine lv_lconst (v := 1) hx hb d_N_hasBitBelow_46 (by decide +kernel) ?_
        refine lv_iload_n hx hb d_N_hasBitBelow_47 rfl (lv_at hl 3 rfl) ?_
        refine lv_bipush (v := nI 28) hx hb d_N_hasBitBelow_48 (by decide +kernel) ?_
        refine n_irem hx hb d_N_hasBitBelow_50 (by omega) (by omega) (by omega) ?_
        refine lv_lshl hx hb d_N_hasBitBelow_51 rfl ?_
        refine sw_l (y := lN (2 ^ (i % 28))) ((wb_shl 1 (k := i % 28) (by omega)).trans (by rw [Nat.one_mul])) ?_
        refine lv_lconst (v := 1) hx hb d_N_hasBitBelow_52 (by decide +kernel) ?_
        refine lv_lsub hx hb d_N_hasBitBelow_53 ?_
        refine sw_l (y := lN (2 ^ (i % 28) - 1)) ((lN_sub (b := 1) hp1)) ?_
        refine lv_land hx hb d_N_hasBitBelow_54 ?_
        refine sw_l (y := lN (V x / vB ^ (i / 28) % vB % 2 ^ (i % 28))) (wb_mask (by omega) (by omega)) ?_
        have hq : V x / vB ^ (i / 28) % vB % 2 ^ (i % 28) ≤ V x / vB ^ (i / 28) % vB := Nat.mod_le _ _
        have ht : (lN (V x / vB ^ (i / 28) % vB % 2 ^ (i % 28))).toInt = ((V x / vB ^ (i / 28) % vB % 2 ^ (i % 28) : Nat) : Int) := lj_lN (by omega)
        refine lv_lconst (v := 0) hx hb d_N_hasBitBelow_55 (by decide +kernel) ?_
        refine lc_eq (tgt := 64) hx hb d_N_hasBitBelow_56 d_N_hasBitBelow_57 (by decide) (fun h8 => ?_) (fun h8 => ?_)
        · refine lv_iconst (v := nI 0) hx hb d_N_hasBitBelow_64 (by decide +kernel) ?_
          refine sw_i (y := (if V x % 2 ^ i ≠ 0 then (1 : Int32) else 0)) (by rw [if_neg (fun q => q (by rw [hnb, show V x / vB ^ (i / 28) % vB % 2 ^ (i % 28) = 0 by rw [ht, lj_0] at h8; omega]; exact Nat.mul_zero _))]; rfl) ?_
          exact hret _ _ _ _ hw d_N_hasBitBelow_65
        · refine lv_iconst (v := nI 1) hx hb d_N_hasBitBelow_60 (by decide +kernel) ?_
          refine lv_goto (tgt := 65) hx hb d_N_hasBitBelow_61 (by decide) ?_
          refine sw_i (y := (if V x % 2 ^ i ≠ 0 then (1 : Int32) else 0)) (by rw [if_pos (by rw [hnb]; exact Nat.mul_ne_zero (by have := Nat.pow_pos (n := i / 28) vB_pos; omega) (by rw [ht, lj_0] at h8; omega))]; rfl) ?_
          exact hret _ _ _ _ hw d_N_hasBitBelow_65
      · exact absurd h0 (by omega)
    | succ z9 ih =>
      intro t  ls H locs hn hle h1 hl hw
      refine lv_iload_n hx hb d_N_hasBitBelow_14 rfl (lv_at hl 0 rfl) ?_
      refine lv_iload_n hx hb d_N_hasBitBelow_15 rfl (lv_at hl 1 rfl) ?_
      refine n_icmp_ge (tgt := 38) hx hb d_N_hasBitBelow_16 (by decide) (by omega) (by omega) (fun h0 => ?_) (fun h0 => ?_)
      · exact absurd h0 (by omega)
      · refine lv_aload_n hx hb d_N_hasBitBelow_19 rfl (lv_at hl 2 rfl) ?_
        refine wg_Natural_limbs hx hb hC hw (by omega) bw_43 d_N_hasBitBelow_20 ?_
        refine lv_iload_n hx hb d_N_hasBitBelow_23 rfl (lv_at hl 0 rfl) ?_
        refine wl_limbs hx hb hw (by omega) (by omega) d_N_hasBitBelow_24 ?_
        refine lv_lconst (v := 0) hx hb d_N_hasBitBelow_25 (by decide +kernel) ?_
        refine lc_eq (tgt := 32) hx hb d_N_hasBitBelow_26 d_N_hasBitBelow_27 (by decide) (fun h8 => ?_) (fun h8 => ?_)
        · refine lv_iinc (v := nI (t + 1)) hx hb d_N_hasBitBelow_32 hl (k := 0) rfl (nI_add _ 1) (by decide) rfl (fun ls hl => ?_)
          have hl : lv_has ls 4 [(3, .int (nI (t + 1))), (2, .int (nI (min (i / 28) (kD (V x))))), (0, .ref (wa T x)), (1, .int (nI i))] := hl
          refine lv_goto (tgt := 14) hx hb d_N_hasBitBelow_35 (by decide) ?_
          refine ih (t + 1) ls H locs (by omega) (by omega) (fun j hj => ?_) hl hw
          by_cases ej : j = t
          · rw [ej]; exact lj_inj (by rw [lj_0]; rw [lj_0] at h8; exact h8)
          · exact h1 j (by omega)
        · refine lv_iconst (v := nI 1) hx hb d_N_hasBitBelow_30 (by decide +kernel) ?_
          have hne : V x % 2 ^ i ≠ 0 := fun q => h8 (by
            have e1 : V x = V x / 2 ^ i * 2 ^ i := by have := Nat.div_add_mod (V x) (2 ^ i); rw [q, Nat.mul_comm] at this; omega
            have e2 := up_dgz (v := V x / 2 ^ i) (n := i) (j := t) (by omega)
            rw [← e1] at e2
            show (fD (V x) t).toInt = _
            rw [fD_lN, e2]; rfl)
          refine sw_i (y := (if V x % 2 ^ i ≠ 0 then (1 : Int32) else 0)) (by rw [if_pos hne]; rfl) ?_
          exact hret _ _ _ _ hw d_N_hasBitBelow_31
  exact lp (min (i / 28) (kD (V x))) 0 ls _ _ (by omega) (by omega) (fun j h => absurd h (by omega)) hl hw
end
section
/-! how many bits -/
def bl (v : Nat) : Nat := lm_len 2 v 2100
theorem vLim_two : vLim = 2 ^ 2100 := by unfold vLim; rw [vB_two]
theorem bl_lt {v : Nat} (h : v < vLim) : v < 2 ^ bl v := lm_len_lt (by decide) (by rw [← vLim_two]; exact h)
theorem bl_ge {v : Nat} (h : 0 < bl v) : 2 ^ (bl v - 1) ≤ v := lm_len_ge h
theorem bl_eq {v k : Nat} (h1 : v < 2 ^ k) (h2 : 0 < k → 2 ^ (k - 1) ≤ v) (h : k ≤ 2100) : bl v = k := lm_len_eq (by decide) h1 h2 h
theorem bl_mono {v k : Nat} (hv : v < 2 ^ k) : bl v ≤ k := by
  apply Nat.le_of_not_lt
  intro h
  have h1 := bl_ge (v := v) (by omega)
  have h2 : 2 ^ k ≤ 2 ^ (bl v - 1) := Nat.pow_le_pow_right (by decide) (by omega)
  omega
theorem bl_0 : bl 0 = 0 := bl_eq (by decide) (fun h => absurd h (by decide)) (by decide)
theorem bl_pos {v : Nat} (hv : v < vLim) (h : 0 < v) : 0 < bl v := by
  apply Nat.pos_of_ne_zero
  intro q
  have := bl_lt hv
  rw [q] at this
  omega
theorem bl_le (v : Nat) : bl v ≤ 2100 := lm_len_le _ _ _
theorem bl_shift {m s : Nat} (hm : m < vLim) (h : 2 ^ s ≤ m) : bl m = bl (m / 2 ^ s) + s := by
  have h1 := bl_lt hm
  have h0 : 0 < 2 ^ s := Nat.two_pow_pos s
  have h2 := bl_pos hm (by omega)
  have h3 := bl_ge h2
  have h4 : s < bl m := by
    apply Nat.lt_of_not_le
    intro q
    have : 2 ^ bl m ≤ 2 ^ s := Nat.pow_le_pow_right (by decide) q
    omega
  have h5 : bl (m / 2 ^ s) = bl m - s := by
    refine bl_eq ?_ (fun _ => ?_) (by have := bl_le m; omega)
    · apply Nat.div_lt_of_lt_mul
      rw [← Nat.pow_add, show s + (bl m - s) = bl m by omega]; exact h1
    · rw [Nat.le_div_iff_mul_le h0, ← Nat.pow_add, show bl m - s - 1 + s = bl m - 1 by omega]; exact h3
  omega
theorem bl_3 {m : Nat} (h0 : 0 < m) (h : m < 4) : m / 2 + 1 = bl m := by
  have e : m = 1 ∨ m = 2 ∨ m = 3 := by omega
  rcases e with rfl | rfl | rfl
  · exact (bl_eq (k := 1) (by decide) (by decide) (by decide)).symm
  · exact (bl_eq (k := 2) (by decide) (by decide) (by decide)).symm
  · exact (bl_eq (k := 2) (by decide) (by decide) (by decide)).symm
theorem lim_31 {m : Nat} (h : m < 2147483648) : m < vLim := by
  rw [vLim_two]; exact Nat.lt_of_lt_of_le (show m < 2 ^ 31 from h) (Nat.pow_le_pow_right (by decide) (by decide))
theorem bl_top {v : Nat} (h : v < vLim) (hk : 0 < kD v) : bl v = 28 * (kD v - 1) + bl (v / vB ^ (kD v - 1)) ∧ 0 < v / vB ^ (kD v - 1) ∧ v / vB ^ (kD v - 1) < 268435456 ∧ v / vB ^ (kD v - 1) % vB = v / vB ^ (kD v - 1) := by
  have h1 := kD_ge hk
  have h2 := kD_lt h
  have h4 : v / vB ^ (kD v - 1) < vB := by
    apply Nat.div_lt_of_lt_mul
    rw [← Nat.pow_succ, show (kD v - 1).succ = kD v by omega]; exact h2
  have h5 := Nat.div_pos h1 (Nat.pow_pos vB_pos)
  refine ⟨?_, h5, h4, Nat.mod_eq_of_lt h4⟩
  rw [vB_two] at h1
  have := bl_shift h h1
  rw [← vB_two] at this
  omega
theorem bl_kD {v : Nat} (h : v < vLim) : bl v ≤ 28 * kD v := by
  apply bl_mono; rw [← vB_two]; exact kD_lt h
theorem nI_decr {a k : Nat} {z : Int32} (hz : z = -(nI k)) (h : k ≤ a) : nI a + z = nI (a - k) := by rw [hz, ← Int32.sub_eq_add_neg, pk_sub h]

set_option maxRecDepth 100000 in
set_option maxHeartbeats 4000000 in
theorem k_JI_nlz (l : Launch) (T : wT) (F : wFt) (U K : wUt) (I : wIt) (O : wOt) (n : Nat) (h0 : 0 < n) (hn : n < 2147483648) : Met l y_JI_numberOfLeadingZeros (.code y_JI_numberOfLeadingZeros c_JI_numberOfLeadingZeros 2 (some .int) :: bg) ({ frames := 0, cells := 0, slots := 0, locals := 0 } : Room) (mP T F U K I O [.int (nI n)]) (mQi T (nI (32 - bl n)) F U K I O) 0 0 (wA T) := by
  refine wM_i (by decide) (Nat.le_of_ble_eq_true rfl) ?_
  intro p e R s m args below meth c Q ls hx hb hC hRf hRl hret hl hw
  have hRf : 0 ≤ R.frames := hRf
  have hRl : 0 ≤ R.locals := hRl
  have hl : lv_has ls 2 [(0, .int (nI n))] := hl
  have s73 : ∀ (t q : Nat) (ls : Array Slot) (H : Heap) (locs : List Loc), 0 < q → q < 4 → t ≤ 31 → bl n + t = 31 + bl q → lv_has ls 2 [(1, .int (nI t)), (0, .int (nI q))] → wH T F U K I O (wA T) s s.heap H locs → W p l e R s m args below meth c H locs 0 0 Q (F0 m 73 ls []) := by
    intro t q ls H locs hq hb2 ht hr hl hw
    have h3 := bl_3 hq hb2
    have hbn : 0 < bl n := bl_pos (lim_31 hn) h0
    have hbn2 : bl n ≤ 31 := bl_mono (show n < 2 ^ 31 from hn)
    refine lv_iload_n hx hb d_JI_numberOfLeadingZeros_73 rfl (lv_at hl 0 rfl) ?_
    refine lv_iload_n hx hb d_JI_numberOfLeadingZeros_74 rfl (lv_at hl 1 rfl) ?_
    refine lv_iconst (v := nI 1) hx hb d_JI_numberOfLeadingZeros_75 (by decide +kernel) ?_
    refine lv_iushr (v := nI (q / 2)) hx hb d_JI_numberOfLeadingZeros_76 (pk_ushrN (by omega) _ 1 (by decide +kernel)) ?_
    refine n_isub hx hb d_JI_numberOfLeadingZeros_77 (by omega) ?_
    refine sw_i (y := nI (32 - bl n)) (by congr 1; omega) ?_
    exact hret _ _ _ _ hw d_JI_numberOfLeadingZeros_78
  have s61 : ∀ (t q : Nat) (ls : Array Slot) (H : Heap) (locs : List Loc), 0 < q → q < 16 → t ≤ 31 → bl n + t = 31 + bl q → lv_has ls 2 [(1, .int (nI t)), (0, .int (nI q))] → wH T F U K I O (wA T) s s.heap H locs → W p l e R s m args below meth c H locs 0 0 Q (F0 m 61 ls []) := by
    intro t q ls H locs hq hb2 ht hr hl hw
    have hqL : q < vLim := lim_31 (by omega)
    refine lv_iload_n hx hb d_JI_numberOfLeadingZeros_61 rfl (lv_at hl 1 rfl) ?_
    refine lv_iconst (v := nI 4) hx hb d_JI_numberOfLeadingZeros_62 (by decide +kernel) ?_
    refine n_icmp_lt (tgt := 73) hx hb d_JI_numberOfLeadingZeros_63 (by decide) (by omega) (by omega) (fun h => ?_) (fun h => ?_)
    · exact s73 t q ls H locs hq (by omega) ht hr hl hw
    · have hs := bl_shift (s := 2) hqL (by show 4 ≤ q; omega)
      have hp : 0 < q / 2 ^ 2 := Nat.div_pos (by show 4 ≤ q; omega) (by decide)
      have hbp : 0 < bl (q / 2 ^ 2) := bl_pos (lim_31 (Nat.lt_of_le_of_lt (Nat.div_le_self _ _) (by omega))) hp
      have hbn : bl n ≤ 31 := bl_mono (show n < 2 ^ 31 from hn)
      refine lv_iinc (v := nI (t - 2)) hx hb d_JI_numberOfLeadingZeros_66 hl (k := 0) rfl (nI_decr (k := 2) (by decide +kernel) (by omega)) (by decide) rfl (fun ls hl => ?_)
      have hl : lv_has ls 2 [(1, .int (nI (t - 2))), (0, .int (nI q))] := hl
      refine lv_iload_n hx hb d_JI_numberOfLeadingZeros_69 rfl (lv_at hl 1 rfl) ?_
      refine lv_iconst (v := nI 2) hx hb d_JI_numberOfLeadingZeros_70 (by decide +kernel) ?_
      refine lv_iushr (v := nI (q / 2 ^ 2)) hx hb d_JI_numberOfLeadingZeros_71 (pk_ushrN (by omega) _ 2 (by decide +kernel)) ?_
      refine lv_istore_n hx hb d_JI_numberOfLeadingZeros_72 rfl hl (by decide) rfl (fun ls hl => ?_)
      have hl : lv_has ls 2 [(0, .int (nI (q / 2 ^ 2))), (1, .int (nI (t - 2)))] := hl
      have hl := lv_sub hl [1, 0] rfl
      have hl : lv_has ls 2 [(1, .int (nI (t - 2))), (0, .int (nI (q / 2 ^ 2)))] := hl
      have e2 : (2 : Nat) ^ 2 = 4 := rfl
      exact s73 (t - 2) (q / 2 ^ 2) ls H locs hp (by omega) (by omega) (by omega) hl hw
  have s48 : ∀ (t q : Nat) (ls : Array Slot) (H : Heap) (locs : List Loc), 0 < q → q < 256 → t ≤ 31 → bl n + t = 31 + bl q → lv_has ls 2 [(1, .int (nI t)), (0, .int (nI q))] → wH T F U K I O (wA T) s s.heap H locs → W p l e R s m args below meth c H locs 0 0 Q (F0 m 48 ls []) := by
    intro t q ls H locs hq hb2 ht hr hl hw
    have hqL : q < vLim := lim_31 (by omega)
    refine lv_iload_n hx hb d_JI_numberOfLeadingZeros_48 rfl (lv_at hl 1 rfl) ?_
    refine lv_bipush (v := nI 16) hx hb d_JI_numberOfLeadingZeros_49 (by decide +kernel) ?_
    refine n_icmp_lt (tgt := 61) hx hb d_JI_numberOfLeadingZeros_51 (by decide) (by omega) (by omega) (fun h => ?_) (fun h => ?_)
    · exact s61 t q ls H locs hq (by omega) ht hr hl hw
    · have hs := bl_shift (s := 4) hqL (by show 16 ≤ q; omega)
      have hp : 0 < q / 2 ^ 4 := Nat.div_pos (by show 16 ≤ q; omega) (by decide)
      have hbp : 0 < bl (q / 2 ^ 4) := bl_pos (lim_31 (Nat.lt_of_le_of_lt (Nat.div_le_self _ _) (by omega))) hp
      have hbn : bl n ≤ 31 := bl_mono (show n < 2 ^ 31 from hn)
      refine lv_iinc (v := nI (t - 4)) hx hb d_JI_numberOfLeadingZeros_54 hl (k := 0) rfl (nI_decr (k := 4) (by decide +kernel) (by omega)) (by decide) rfl (fun ls hl => ?_)
      have hl : lv_has ls 2 [(1, .int (nI (t - 4))), (0, .int (nI q))] := hl
      refine lv_iload_n hx hb d_JI_numberOfLeadingZeros_57 rfl (lv_at hl 1 rfl) ?_
      refine lv_iconst (v := nI 4) hx hb d_JI_numberOfLeadingZeros_58 (by decide +kernel) ?_
      refine lv_iushr (v := nI (q / 2 ^ 4)) hx hb d_JI_numberOfLeadingZeros_59 (pk_ushrN (by omega) _ 4 (by decide +kernel)) ?_
      refine lv_istore_n hx hb d_JI_numberOfLeadingZeros_60 rfl hl (by decide) rfl (fun ls hl => ?_)
      have hl : lv_has ls 2 [(0, .int (nI (q / 2 ^ 4))), (1, .int (nI (t - 4)))] := hl
      have hl := lv_sub hl [1, 0] rfl
      have hl : lv_has ls 2 [(1, .int (nI (t - 4))), (0, .int (nI (q / 2 ^ 4)))] := hl
      have e2 : (2 : Nat) ^ 4 = 16 := rfl
      exact s61 (t - 4) (q / 2 ^ 4) ls H locs hp (by omega) (by omega) (by omega) hl hw
  have s33 : ∀ (t q : Nat) (ls : Array Slot) (H : Heap) (locs : List Loc), 0 < q → q < 65536 → t ≤ 31 → bl n + t = 31 + bl q → lv_has ls 2 [(1, .int (nI t)), (0, .int (nI q))] → wH T F U K I O (wA T) s s.heap H locs → W p l e R s m args below meth c H locs 0 0 Q (F0 m 33 ls []) := by
    intro t q ls H locs hq hb2 ht hr hl hw
    have hqL : q < vLim := lim_31 (by omega)
    refine lv_iload_n hx hb d_JI_numberOfLeadingZeros_33 rfl (lv_at hl 1 rfl) ?_
    refine lv_sipush (v := nI 256) hx hb d_JI_numberOfLeadingZeros_34 (by decide +kernel) ?_
    refine n_icmp_lt (tgt := 48) hx hb d_JI_numberOfLeadingZeros_37 (by decide) (by omega) (by omega) (fun h => ?_) (fun h => ?_)
    · exact s48 t q ls H locs hq (by omega) ht hr hl hw
    · have hs := bl_shift (s := 8) hqL (by show 256 ≤ q; omega)
      have hp : 0 < q / 2 ^ 8 := Nat.div_pos (by show 256 ≤ q; omega) (by decide)
      have hbp : 0 < bl (q / 2 ^ 8) := bl_pos (lim_31 (Nat.lt_of_le_of_lt (Nat.div_le_self _ _) (by omega))) hp
      have hbn : bl n ≤ 31 := bl_mono (show n < 2 ^ 31 from hn)
      refine lv_iinc (v := nI (t - 8)) hx hb d_JI_numberOfLeadingZeros_40 hl (k := 0) rfl (nI_decr (k := 8) (by decide +kernel) (by omega)) (by decide) rfl (fun ls hl => ?_)
      have hl : lv_has ls 2 [(1, .int (nI (t - 8))), (0, .int (nI q))] := hl
      refine lv_iload_n hx hb d_JI_numberOfLeadingZeros_43 rfl (lv_at hl 1 rfl) ?_
      refine lv_bipush (v := nI 8) hx hb d_JI_numberOfLeadingZeros_44 (by decide +kernel) ?_
      refine lv_iushr (v := nI (q / 2 ^ 8)) hx hb d_JI_numberOfLeadingZeros_46 (pk_ushrN (by omega) _ 8 (by decide +kernel)) ?_
      refine lv_istore_n hx hb d_JI_numberOfLeadingZeros_47 rfl hl (by decide) rfl (fun ls hl => ?_)
      have hl : lv_has ls 2 [(0, .int (nI (q / 2 ^ 8))), (1, .int (nI (t - 8)))] := hl
      have hl := lv_sub hl [1, 0] rfl
      have hl : lv_has ls 2 [(1, .int (nI (t - 8))), (0, .int (nI (q / 2 ^ 8)))] := hl
      have e2 : (2 : Nat) ^ 8 = 256 := rfl
      exact s48 (t - 8) (q / 2 ^ 8) ls H locs hp (by omega) (by omega) (by omega) hl hw
  have s18 : ∀ (t q : Nat) (ls : Array Slot) (H : Heap) (locs : List Loc), 0 < q → q < 2147483648 → t ≤ 31 → bl n + t = 31 + bl q → lv_has ls 2 [(1, .int (nI t)), (0, .int (nI q))] → wH T F U K I O (wA T) s s.heap H locs → W p l e R s m args below meth c H locs 0 0 Q (F0 m 18 ls []) := by
    intro t q ls H locs hq hb2 ht hr hl hw
    have hqL : q < vLim := lim_31 (by omega)
    refine lv_iload_n hx hb d_JI_numberOfLeadingZeros_18 rfl (lv_at hl 1 rfl) ?_
    refine lv_ldcw (v := nI 65536) hx hb hC.ow (hC.hts bw_369) d_JI_numberOfLeadingZeros_19 ?_
    refine n_icmp_lt (tgt := 33) hx hb d_JI_numberOfLeadingZeros_22 (by decide) (by omega) (by omega) (fun h => ?_) (fun h => ?_)
    · exact s33 t q ls H locs hq (by omega) ht hr hl hw
    · have hs := bl_shift (s := 16) hqL (by show 65536 ≤ q; omega)
      have hp : 0 < q / 2 ^ 16 := Nat.div_pos (by show 65536 ≤ q; omega) (by decide)
      have hbp : 0 < bl (q / 2 ^ 16) := bl_pos (lim_31 (Nat.lt_of_le_of_lt (Nat.div_le_self _ _) (by omega))) hp
      have hbn : bl n ≤ 31 := bl_mono (show n < 2 ^ 31 from hn)
      refine lv_iinc (v := nI (t - 16)) hx hb d_JI_numberOfLeadingZeros_25 hl (k := 0) rfl (nI_decr (k := 16) (by decide +kernel) (by omega)) (by decide) rfl (fun ls hl => ?_)
      have hl : lv_has ls 2 [(1, .int (nI (t - 16))), (0, .int (nI q))] := hl
      refine lv_iload_n hx hb d_JI_numberOfLeadingZeros_28 rfl (lv_at hl 1 rfl) ?_
      refine lv_bipush (v := nI 16) hx hb d_JI_numberOfLeadingZeros_29 (by decide +kernel) ?_
      refine lv_iushr (v := nI (q / 2 ^ 16)) hx hb d_JI_numberOfLeadingZeros_31 (pk_ushrN (by omega) _ 16 (by decide +kernel)) ?_
      refine lv_istore_n hx hb d_JI_numberOfLeadingZeros_32 rfl hl (by decide) rfl (fun ls hl => ?_)
      have hl : lv_has ls 2 [(0, .int (nI (q / 2 ^ 16))), (1, .int (nI (t - 16)))] := hl
      have hl := lv_sub hl [1, 0] rfl
      have hl : lv_has ls 2 [(1, .int (nI (t - 16))), (0, .int (nI (q / 2 ^ 16)))] := hl
      have e2 : (2 : Nat) ^ 16 = 65536 := rfl
      exact s33 (t - 16) (q / 2 ^ 16) ls H locs hp (by omega) (by omega) (by omega) hl hw
  refine lv_iload_n hx hb d_JI_numberOfLeadingZeros_0 rfl (lv_at hl 0 rfl) ?_
  refine n_if_gt (tgt := 15) hx hb d_JI_numberOfLeadingZeros_1 (by decide) (by omega) (fun h => ?_) (fun h => ?_)
  · refine lv_bipush (v := nI 31) hx hb d_JI_numberOfLeadingZeros_15 (by decide +kernel) ?_
    refine lv_istore_n hx hb d_JI_numberOfLeadingZeros_17 rfl hl (by decide) rfl (fun ls hl => ?_)
    have hl : lv_has ls 2 [(1, .int (nI 31)), (0, .int (nI n))] := hl
    exact s18 31 n ls _ _ h0 hn (by omega) (by omega) hl hw
  · exact absurd h (by omega)
set_option maxRecDepth 100000 in
set_option maxHeartbeats 4000000 in
theorem k_JL_nlz (l : Launch) (T : wT) (F : wFt) (U K : wUt) (I : wIt) (O : wOt) (n : Nat) (h0 : 0 < n) (hn : n < 2147483648) : Met l y_JL_numberOfLeadingZeros (.code y_JL_numberOfLeadingZeros c_JL_numberOfLeadingZeros 3 (some .int) :: bg) ({ frames := 1, cells := 0, slots := 0, locals := 21 } : Room) (mP T F U K I O [.long (lN n)]) (mQi T (nI (64 - bl n)) F U K I O) 0 0 (wA T) := by
  refine wM_i (by decide) (Nat.le_of_ble_eq_true rfl) ?_
  intro p e R s m args below meth c Q ls hx hb hC hRf hRl hret hl hw
  have hRf : 1 ≤ R.frames := hRf
  have hRl : 21 ≤ R.locals := hRl
  have hl : lv_has ls 3 [(0, .long (lN n))] := hl
  have hbn : bl n ≤ 31 := bl_mono (show n < 2 ^ 31 from hn)
  have e32 : (2 : Nat) ^ 32 = 4294967296 := rfl
  refine lv_lload_n hx hb d_JL_numberOfLeadingZeros_0 rfl (lv_at hl 0 rfl) ?_
  refine lv_bipush (v := nI 32) hx hb d_JL_numberOfLeadingZeros_1 (by decide +kernel) ?_
  refine lv_lushr hx hb d_JL_numberOfLeadingZeros_3 rfl ?_
  refine sw_l (y := lN 0) (by rw [wb_shr (by omega) (by decide), Nat.div_eq_of_lt (by omega)]) ?_
  refine lv_l2i hx hb d_JL_numberOfLeadingZeros_4 rfl ?_
  refine sw_i (y := nI 0) (lN_i 0) ?_
  refine lv_istore_n hx hb d_JL_numberOfLeadingZeros_5 rfl hl (by decide) rfl (fun ls hl => ?_)
  have hl : lv_has ls 3 [(2, .int (nI 0)), (0, .long (lN n))] := hl
  refine lv_iload_n hx hb d_JL_numberOfLeadingZeros_6 rfl (lv_at hl 0 rfl) ?_
  refine n_if_ne (tgt := 21) hx hb d_JL_numberOfLeadingZeros_7 (by decide) (by omega) (fun h => ?_) (fun h => ?_)
  · exact absurd h (by omega)
  · refine lv_bipush (v := nI 32) hx hb d_JL_numberOfLeadingZeros_10 (by decide +kernel) ?_
    refine lv_lload_n hx hb d_JL_numberOfLeadingZeros_12 rfl (lv_at hl 1 rfl) ?_
    refine lv_l2i hx hb d_JL_numberOfLeadingZeros_13 rfl ?_
    refine sw_i (y := nI n) (lN_i n) ?_
    refine wcS_i (As := [.int (nI n)]) hx hb hC hw (k_JI_nlz l T F U K I O n h0 hn) lk_JL_308 rfl rfl ⟨by show 0 + 1 ≤ R.frames; omega, by show 8 + (2 + 11) + 0 ≤ R.locals; omega⟩ rfl hl.1 rfl (Nat.le_of_ble_eq_true rfl) ⟨Nat.zero_le _, Nat.zero_le _⟩ d_JL_numberOfLeadingZeros_14 (fun H locs hw => ?_)
    refine n_iadd hx hb d_JL_numberOfLeadingZeros_17 ?_
    refine lv_goto (tgt := 25) hx hb d_JL_numberOfLeadingZeros_18 (by decide) ?_
    refine sw_i (y := nI (64 - bl n)) (by congr 1; omega) ?_
    exact hret _ _ _ _ hw d_JL_numberOfLeadingZeros_25
set_option maxRecDepth 100000 in
set_option maxHeartbeats 4000000 in
theorem k_N_spareBits (l : Launch) (T : wT) (V : Nat → Nat) (K : wUt) (I : wIt) (O : wOt) (x : Nat) (hi : x < 34) (hV : ∀ n, n < 34 → V n < vLim) : Met l y_N_spareBits (.code y_N_spareBits c_N_spareBits 1 (some .int) :: bg) ({ frames := 2, cells := 0, slots := 0, locals := 43 } : Room) (mP T (fF V) (fU V) K I O [.ref (wa T x)]) (mQi T (nI (28 * kD (V x) - bl (V x))) (fF V) (fU V) K I O) 0 0 (wA T) := by
  refine wM_i (by decide) (Nat.le_of_ble_eq_true rfl) ?_
  intro p e R s m args below meth c Q ls hx hb hC hRf hRl hret hl hw
  have hRf : 2 ≤ R.frames := hRf
  have hRl : 43 ≤ R.locals := hRl
  have hl : lv_has ls 1 [(0, .ref (wa T x))] := hl
  have hk := kD_le (V x)
  refine lv_aload_n hx hb d_N_spareBits_0 rfl (lv_at hl 0 rfl) ?_
  refine wg_Natural_used hx hb hC hw (by omega) bw_45 d_N_spareBits_1 ?_
  refine sw_i (y := nI (kD (V x))) (rfl) ?_
  refine n_if_ne (tgt := 11) hx hb d_N_spareBits_4 (by decide) (by omega) (fun h => ?_) (fun h => ?_)
  · obtain ⟨t1, t2, t3, t4⟩ := bl_top (hV x hi) h
    have t5 : bl (V x / vB ^ (kD (V x) - 1)) ≤ 28 := bl_mono (show _ < 2 ^ 28 from t3)
    refine lv_aload_n hx hb d_N_spareBits_11 rfl (lv_at hl 0 rfl) ?_
    refine wg_Natural_limbs hx hb hC hw (by omega) bw_43 d_N_spareBits_12 ?_
    refine lv_aload_n hx hb d_N_spareBits_15 rfl (lv_at hl 0 rfl) ?_
    refine wg_Natural_used hx hb hC hw (by omega) bw_45 d_N_spareBits_16 ?_
    refine sw_i (y := nI (kD (V x))) (rfl) ?_
    refine lv_iconst (v := nI 1) hx hb d_N_spareBits_19 (by decide +kernel) ?_
    refine n_isub hx hb d_N_spareBits_20 (by omega) ?_
    refine wl_limbs hx hb hw (by omega) (by omega) d_N_spareBits_21 ?_
    refine sw_l (y := lN (V x / vB ^ (kD (V x) - 1))) (by show fD (V x) _ = _; rw [fD_lN, t4]) ?_
    refine wcS_i (As := [.long (lN (V x / vB ^ (kD (V x) - 1)))]) hx hb hC hw (k_JL_nlz l T (fF V) (fU V) K I O (V x / vB ^ (kD (V x) - 1)) t2 (by omega)) lk_N_27 rfl rfl ⟨by show 1 + 1 ≤ R.frames; omega, by show 8 + (3 + 11) + 21 ≤ R.locals; omega⟩ rfl hl.1 rfl (Nat.le_of_ble_eq_true rfl) ⟨Nat.zero_le _, Nat.zero_le _⟩ d_N_spareBits_22 (fun H locs hw => ?_)
    refine lv_bipush (v := nI 36) hx hb d_N_spareBits_25 (by decide +kernel) ?_
    refine n_isub hx hb d_N_spareBits_27 (by omega) ?_
    refine sw_i (y := nI (28 * kD (V x) - bl (V x))) (by congr 1; omega) ?_
    exact hret _ _ _ _ hw d_N_spareBits_28
  · refine lv_iconst (v := nI 0) hx hb d_N_spareBits_7 (by decide +kernel) ?_
    refine lv_goto (tgt := 28) hx hb d_N_spareBits_8 (by decide) ?_
    refine sw_i (y := nI (28 * kD (V x) - bl (V x))) (by congr 1; omega) ?_
    exact hret _ _ _ _ hw d_N_spareBits_28
set_option maxRecDepth 100000 in
set_option maxHeartbeats 4000000 in
theorem k_N_length (l : Launch) (T : wT) (V : Nat → Nat) (K : wUt) (I : wIt) (O : wOt) (x : Nat) (hi : x < 34) (hV : ∀ n, n < 34 → V n < vLim) : Met l y_N_length (.code y_N_length c_N_length 1 (some .int) :: bg) ({ frames := 3, cells := 0, slots := 0, locals := 63 } : Room) (mP T (fF V) (fU V) K I O [.ref (wa T x)]) (mQi T (nI (bl (V x))) (fF V) (fU V) K I O) 0 0 (wA T) := by
  refine wM_i (by decide) (Nat.le_of_ble_eq_true rfl) ?_
  intro p e R s m args below meth c Q ls hx hb hC hRf hRl hret hl hw
  have hRf : 3 ≤ R.frames := hRf
  have hRl : 63 ≤ R.locals := hRl
  have hl : lv_has ls 1 [(0, .ref (wa T x))] := hl
  have hk := bl_kD (hV x hi)
  refine lv_aload_n hx hb d_N_length_0 rfl (lv_at hl 0 rfl) ?_
  refine wg_Natural_used hx hb hC hw (by omega) bw_45 d_N_length_1 ?_
  refine sw_i (y := nI (kD (V x))) (rfl) ?_
  refine lv_bipush (v := nI 28) hx hb d_N_length_4 (by decide +kernel) ?_
  refine n_imul hx hb d_N_length_6 ?_
  refine lv_aload_n hx hb d_N_length_7 rfl (lv_at hl 0 rfl) ?_
  refine wcV_i (As := []) hx hb hC hw (k_N_spareBits l T V K I O x hi hV) lk_N_23 rfl rfl ⟨by show 2 + 1 ≤ R.frames; omega, by show 8 + (1 + 11) + 43 ≤ R.locals; omega⟩ (by omega) (we_Natural (by omega)) rfl rfl hl.1 rfl (Nat.le_of_ble_eq_true rfl) ⟨Nat.zero_le _, Nat.zero_le _⟩ d_N_length_8 (fun H locs hw => ?_)
  refine n_isub hx hb d_N_length_11 (by omega) ?_
  refine sw_i (y := nI (bl (V x))) (by congr 1; omega) ?_
  exact hret _ _ _ _ hw d_N_length_12
end
section
/-! decode rows -/
theorem d_D_guessLimb_0 : decode c_D_guessLimb 0 = .ok (.aload_n 0, 1) := by decide +kernel
theorem d_D_guessLimb_1 : decode c_D_guessLimb 1 = .ok (.getfield 21, 3) := by decide +kernel
theorem d_D_guessLimb_4 : decode c_D_guessLimb 4 = .ok (.getfield 51, 3) := by decide +kernel
theorem d_D_guessLimb_7 : decode c_D_guessLimb 7 = .ok (.aload_n 0, 1) := by decide +kernel
theorem d_D_guessLimb_8 : decode c_D_guessLimb 8 = .ok (.getfield 21, 3) := by decide +kernel
theorem d_D_guessLimb_11 : decode c_D_guessLimb 11 = .ok (.getfield 47, 3) := by decide +kernel
theorem d_D_guessLimb_14 : decode c_D_guessLimb 14 = .ok (.iconst 1, 1) := by decide +kernel
theorem d_D_guessLimb_15 : decode c_D_guessLimb 15 = .ok (.isub, 1) := by decide +kernel
theorem d_D_guessLimb_16 : decode c_D_guessLimb 16 = .ok (.laload, 1) := by decide +kernel
theorem d_D_guessLimb_17 : decode c_D_guessLimb 17 = .ok (.lstore_n 2, 1) := by decide +kernel
theorem d_D_guessLimb_18 : decode c_D_guessLimb 18 = .ok (.aload_n 0, 1) := by decide +kernel
theorem d_D_guessLimb_19 : decode c_D_guessLimb 19 = .ok (.getfield 21, 3) := by decide +kernel
theorem d_D_guessLimb_22 : decode c_D_guessLimb 22 = .ok (.aload_n 0, 1) := by decide +kernel
theorem d_D_guessLimb_23 : decode c_D_guessLimb 23 = .ok (.getfield 21, 3) := by decide +kernel
theorem d_D_guessLimb_26 : decode c_D_guessLimb 26 = .ok (.getfield 47, 3) := by decide +kernel
theorem d_D_guessLimb_29 : decode c_D_guessLimb 29 = .ok (.iconst 2, 1) := by decide +kernel
theorem d_D_guessLimb_30 : decode c_D_guessLimb 30 = .ok (.isub, 1) := by decide +kernel
theorem d_D_guessLimb_31 : decode c_D_guessLimb 31 = .ok (.invokevirtual 83, 3) := by decide +kernel
theorem d_D_guessLimb_34 : decode c_D_guessLimb 34 = .ok (.lstore 4, 2) := by decide +kernel
theorem d_D_guessLimb_36 : decode c_D_guessLimb 36 = .ok (.aload_n 0, 1) := by decide +kernel
theorem d_D_guessLimb_37 : decode c_D_guessLimb 37 = .ok (.getfield 18, 3) := by decide +kernel
theorem d_D_guessLimb_40 : decode c_D_guessLimb 40 = .ok (.getfield 51, 3) := by decide +kernel
theorem d_D_guessLimb_43 : decode c_D_guessLimb 43 = .ok (.iload_n 1, 1) := by decide +kernel
theorem d_D_guessLimb_44 : decode c_D_guessLimb 44 = .ok (.laload, 1) := by decide +kernel
theorem d_D_guessLimb_45 : decode c_D_guessLimb 45 = .ok (.ldc2_w 86, 3) := by decide +kernel
theorem d_D_guessLimb_48 : decode c_D_guessLimb 48 = .ok (.lmul, 1) := by decide +kernel
theorem d_D_guessLimb_49 : decode c_D_guessLimb 49 = .ok (.aload_n 0, 1) := by decide +kernel
theorem d_D_guessLimb_50 : decode c_D_guessLimb 50 = .ok (.getfield 18, 3) := by decide +kernel
theorem d_D_guessLimb_53 : decode c_D_guessLimb 53 = .ok (.getfield 51, 3) := by decide +kernel
theorem d_D_guessLimb_56 : decode c_D_guessLimb 56 = .ok (.iload_n 1, 1) := by decide +kernel
theorem d_D_guessLimb_57 : decode c_D_guessLimb 57 = .ok (.iconst 1, 1) := by decide +kernel
theorem d_D_guessLimb_58 : decode c_D_guessLimb 58 = .ok (.isub, 1) := by decide +kernel
theorem d_D_guessLimb_59 : decode c_D_guessLimb 59 = .ok (.laload, 1) := by decide +kernel
theorem d_D_guessLimb_60 : decode c_D_guessLimb 60 = .ok (.ladd, 1) := by decide +kernel
theorem d_D_guessLimb_61 : decode c_D_guessLimb 61 = .ok (.lstore 6, 2) := by decide +kernel
theorem d_D_guessLimb_63 : decode c_D_guessLimb 63 = .ok (.aload_n 0, 1) := by decide +kernel
theorem d_D_guessLimb_64 : decode c_D_guessLimb 64 = .ok (.getfield 18, 3) := by decide +kernel
theorem d_D_guessLimb_67 : decode c_D_guessLimb 67 = .ok (.iload_n 1, 1) := by decide +kernel
theorem d_D_guessLimb_68 : decode c_D_guessLimb 68 = .ok (.iconst 2, 1) := by decide +kernel
theorem d_D_guessLimb_69 : decode c_D_guessLimb 69 = .ok (.isub, 1) := by decide +kernel
theorem d_D_guessLimb_70 : decode c_D_guessLimb 70 = .ok (.invokevirtual 83, 3) := by decide +kernel
theorem d_D_guessLimb_73 : decode c_D_guessLimb 73 = .ok (.lstore 8, 2) := by decide +kernel
theorem d_D_guessLimb_75 : decode c_D_guessLimb 75 = .ok (.lload 6, 2) := by decide +kernel
theorem d_D_guessLimb_77 : decode c_D_guessLimb 77 = .ok (.lload_n 2, 1) := by decide +kernel
theorem d_D_guessLimb_78 : decode c_D_guessLimb 78 = .ok (.ldiv, 1) := by decide +kernel
theorem d_D_guessLimb_79 : decode c_D_guessLimb 79 = .ok (.ldc2_w 88, 3) := by decide +kernel
theorem d_D_guessLimb_82 : decode c_D_guessLimb 82 = .ok (.invokestatic 90, 3) := by decide +kernel
theorem d_D_guessLimb_85 : decode c_D_guessLimb 85 = .ok (.lstore 10, 2) := by decide +kernel
theorem d_D_guessLimb_87 : decode c_D_guessLimb 87 = .ok (.lload 6, 2) := by decide +kernel
theorem d_D_guessLimb_89 : decode c_D_guessLimb 89 = .ok (.lload 10, 2) := by decide +kernel
theorem d_D_guessLimb_91 : decode c_D_guessLimb 91 = .ok (.lload_n 2, 1) := by decide +kernel
theorem d_D_guessLimb_92 : decode c_D_guessLimb 92 = .ok (.lmul, 1) := by decide +kernel
theorem d_D_guessLimb_93 : decode c_D_guessLimb 93 = .ok (.lsub, 1) := by decide +kernel
theorem d_D_guessLimb_94 : decode c_D_guessLimb 94 = .ok (.lstore 12, 2) := by decide +kernel
theorem d_D_guessLimb_96 : decode c_D_guessLimb 96 = .ok (.iconst 0, 1) := by decide +kernel
theorem d_D_guessLimb_97 : decode c_D_guessLimb 97 = .ok (.istore 14, 2) := by decide +kernel
theorem d_D_guessLimb_99 : decode c_D_guessLimb 99 = .ok (.iload 14, 2) := by decide +kernel
theorem d_D_guessLimb_101 : decode c_D_guessLimb 101 = .ok (.iconst 2, 1) := by decide +kernel
theorem d_D_guessLimb_102 : decode c_D_guessLimb 102 = .ok (.if_icmp .ge 48, 3) := by decide +kernel
theorem d_D_guessLimb_105 : decode c_D_guessLimb 105 = .ok (.lload 12, 2) := by decide +kernel
theorem d_D_guessLimb_107 : decode c_D_guessLimb 107 = .ok (.ldc2_w 86, 3) := by decide +kernel
theorem d_D_guessLimb_110 : decode c_D_guessLimb 110 = .ok (.lcmp, 1) := by decide +kernel
theorem d_D_guessLimb_111 : decode c_D_guessLimb 111 = .ok (.ifCond .ge 39, 3) := by decide +kernel
theorem d_D_guessLimb_114 : decode c_D_guessLimb 114 = .ok (.lload 10, 2) := by decide +kernel
theorem d_D_guessLimb_116 : decode c_D_guessLimb 116 = .ok (.lload 4, 2) := by decide +kernel
theorem d_D_guessLimb_118 : decode c_D_guessLimb 118 = .ok (.lmul, 1) := by decide +kernel
theorem d_D_guessLimb_119 : decode c_D_guessLimb 119 = .ok (.lload 12, 2) := by decide +kernel
theorem d_D_guessLimb_121 : decode c_D_guessLimb 121 = .ok (.ldc2_w 86, 3) := by decide +kernel
theorem d_D_guessLimb_124 : decode c_D_guessLimb 124 = .ok (.lmul, 1) := by decide +kernel
theorem d_D_guessLimb_125 : decode c_D_guessLimb 125 = .ok (.lload 8, 2) := by decide +kernel
theorem d_D_guessLimb_127 : decode c_D_guessLimb 127 = .ok (.ladd, 1) := by decide +kernel
theorem d_D_guessLimb_128 : decode c_D_guessLimb 128 = .ok (.lcmp, 1) := by decide +kernel
theorem d_D_guessLimb_129 : decode c_D_guessLimb 129 = .ok (.ifCond .le 21, 3) := by decide +kernel
theorem d_D_guessLimb_132 : decode c_D_guessLimb 132 = .ok (.lload 10, 2) := by decide +kernel
theorem d_D_guessLimb_134 : decode c_D_guessLimb 134 = .ok (.lconst 1, 1) := by decide +kernel
theorem d_D_guessLimb_135 : decode c_D_guessLimb 135 = .ok (.lsub, 1) := by decide +kernel
theorem d_D_guessLimb_136 : decode c_D_guessLimb 136 = .ok (.lstore 10, 2) := by decide +kernel
theorem d_D_guessLimb_138 : decode c_D_guessLimb 138 = .ok (.lload 12, 2) := by decide +kernel
theorem d_D_guessLimb_140 : decode c_D_guessLimb 140 = .ok (.lload_n 2, 1) := by decide +kernel
theorem d_D_guessLimb_141 : decode c_D_guessLimb 141 = .ok (.ladd, 1) := by decide +kernel
theorem d_D_guessLimb_142 : decode c_D_guessLimb 142 = .ok (.lstore 12, 2) := by decide +kernel
theorem d_D_guessLimb_144 : decode c_D_guessLimb 144 = .ok (.iinc 14 1, 3) := by decide +kernel
theorem d_D_guessLimb_147 : decode c_D_guessLimb 147 = .ok (.goto (-48), 3) := by decide +kernel
theorem d_D_guessLimb_150 : decode c_D_guessLimb 150 = .ok (.lload 10, 2) := by decide +kernel
theorem d_D_guessLimb_152 : decode c_D_guessLimb 152 = .ok (.lreturn, 1) := by decide +kernel
theorem d_D_nextLimb_0 : decode c_D_nextLimb 0 = .ok (.aload_n 0, 1) := by decide +kernel
theorem d_D_nextLimb_1 : decode c_D_nextLimb 1 = .ok (.iload_n 1, 1) := by decide +kernel
theorem d_D_nextLimb_2 : decode c_D_nextLimb 2 = .ok (.aload_n 0, 1) := by decide +kernel
theorem d_D_nextLimb_3 : decode c_D_nextLimb 3 = .ok (.getfield 21, 3) := by decide +kernel
theorem d_D_nextLimb_6 : decode c_D_nextLimb 6 = .ok (.getfield 47, 3) := by decide +kernel
theorem d_D_nextLimb_9 : decode c_D_nextLimb 9 = .ok (.iadd, 1) := by decide +kernel
theorem d_D_nextLimb_10 : decode c_D_nextLimb 10 = .ok (.invokevirtual 73, 3) := by decide +kernel
theorem d_D_nextLimb_13 : decode c_D_nextLimb 13 = .ok (.lstore_n 2, 1) := by decide +kernel
theorem d_D_nextLimb_14 : decode c_D_nextLimb 14 = .ok (.aload_n 0, 1) := by decide +kernel
theorem d_D_nextLimb_15 : decode c_D_nextLimb 15 = .ok (.iload_n 1, 1) := by decide +kernel
theorem d_D_nextLimb_16 : decode c_D_nextLimb 16 = .ok (.lload_n 2, 1) := by decide +kernel
theorem d_D_nextLimb_17 : decode c_D_nextLimb 17 = .ok (.invokevirtual 76, 3) := by decide +kernel
theorem d_D_nextLimb_20 : decode c_D_nextLimb 20 = .ok (.ifCond .eq 5, 3) := by decide +kernel
theorem d_D_nextLimb_23 : decode c_D_nextLimb 23 = .ok (.lload_n 2, 1) := by decide +kernel
theorem d_D_nextLimb_24 : decode c_D_nextLimb 24 = .ok (.lreturn, 1) := by decide +kernel
theorem d_D_nextLimb_25 : decode c_D_nextLimb 25 = .ok (.aload_n 0, 1) := by decide +kernel
theorem d_D_nextLimb_26 : decode c_D_nextLimb 26 = .ok (.iload_n 1, 1) := by decide +kernel
theorem d_D_nextLimb_27 : decode c_D_nextLimb 27 = .ok (.invokevirtual 80, 3) := by decide +kernel
theorem d_D_nextLimb_30 : decode c_D_nextLimb 30 = .ok (.lload_n 2, 1) := by decide +kernel
theorem d_D_nextLimb_31 : decode c_D_nextLimb 31 = .ok (.lconst 1, 1) := by decide +kernel
theorem d_D_nextLimb_32 : decode c_D_nextLimb 32 = .ok (.lsub, 1) := by decide +kernel
theorem d_D_nextLimb_33 : decode c_D_nextLimb 33 = .ok (.lreturn, 1) := by decide +kernel
theorem d_D_putBack_0 : decode c_D_putBack 0 = .ok (.aload_n 0, 1) := by decide +kernel
theorem d_D_putBack_1 : decode c_D_putBack 1 = .ok (.getfield 21, 3) := by decide +kernel
theorem d_D_putBack_4 : decode c_D_putBack 4 = .ok (.getfield 47, 3) := by decide +kernel
theorem d_D_putBack_7 : decode c_D_putBack 7 = .ok (.istore_n 2, 1) := by decide +kernel
theorem d_D_putBack_8 : decode c_D_putBack 8 = .ok (.lconst 0, 1) := by decide +kernel
theorem d_D_putBack_9 : decode c_D_putBack 9 = .ok (.lstore_n 3, 1) := by decide +kernel
theorem d_D_putBack_10 : decode c_D_putBack 10 = .ok (.iconst 0, 1) := by decide +kernel
theorem d_D_putBack_11 : decode c_D_putBack 11 = .ok (.istore 5, 2) := by decide +kernel
theorem d_D_putBack_13 : decode c_D_putBack 13 = .ok (.iload 5, 2) := by decide +kernel
theorem d_D_putBack_15 : decode c_D_putBack 15 = .ok (.iload_n 2, 1) := by decide +kernel
theorem d_D_putBack_16 : decode c_D_putBack 16 = .ok (.if_icmp .ge 57, 3) := by decide +kernel
theorem d_D_putBack_19 : decode c_D_putBack 19 = .ok (.lload_n 3, 1) := by decide +kernel
theorem d_D_putBack_20 : decode c_D_putBack 20 = .ok (.aload_n 0, 1) := by decide +kernel
theorem d_D_putBack_21 : decode c_D_putBack 21 = .ok (.getfield 18, 3) := by decide +kernel
theorem d_D_putBack_24 : decode c_D_putBack 24 = .ok (.getfield 51, 3) := by decide +kernel
theorem d_D_putBack_27 : decode c_D_putBack 27 = .ok (.iload_n 1, 1) := by decide +kernel
theorem d_D_putBack_28 : decode c_D_putBack 28 = .ok (.iload 5, 2) := by decide +kernel
theorem d_D_putBack_30 : decode c_D_putBack 30 = .ok (.iadd, 1) := by decide +kernel
theorem d_D_putBack_31 : decode c_D_putBack 31 = .ok (.laload, 1) := by decide +kernel
theorem d_D_putBack_32 : decode c_D_putBack 32 = .ok (.aload_n 0, 1) := by decide +kernel
theorem d_D_putBack_33 : decode c_D_putBack 33 = .ok (.getfield 21, 3) := by decide +kernel
theorem d_D_putBack_36 : decode c_D_putBack 36 = .ok (.getfield 51, 3) := by decide +kernel
theorem d_D_putBack_39 : decode c_D_putBack 39 = .ok (.iload 5, 2) := by decide +kernel
theorem d_D_putBack_41 : decode c_D_putBack 41 = .ok (.laload, 1) := by decide +kernel
theorem d_D_putBack_42 : decode c_D_putBack 42 = .ok (.ladd, 1) := by decide +kernel
theorem d_D_putBack_43 : decode c_D_putBack 43 = .ok (.ladd, 1) := by decide +kernel
theorem d_D_putBack_44 : decode c_D_putBack 44 = .ok (.lstore_n 3, 1) := by decide +kernel
theorem d_D_putBack_45 : decode c_D_putBack 45 = .ok (.aload_n 0, 1) := by decide +kernel
theorem d_D_putBack_46 : decode c_D_putBack 46 = .ok (.getfield 18, 3) := by decide +kernel
theorem d_D_putBack_49 : decode c_D_putBack 49 = .ok (.getfield 51, 3) := by decide +kernel
theorem d_D_putBack_52 : decode c_D_putBack 52 = .ok (.iload_n 1, 1) := by decide +kernel
theorem d_D_putBack_53 : decode c_D_putBack 53 = .ok (.iload 5, 2) := by decide +kernel
theorem d_D_putBack_55 : decode c_D_putBack 55 = .ok (.iadd, 1) := by decide +kernel
theorem d_D_putBack_56 : decode c_D_putBack 56 = .ok (.lload_n 3, 1) := by decide +kernel
theorem d_D_putBack_57 : decode c_D_putBack 57 = .ok (.ldc2_w 88, 3) := by decide +kernel
theorem d_D_putBack_60 : decode c_D_putBack 60 = .ok (.land, 1) := by decide +kernel
theorem d_D_putBack_61 : decode c_D_putBack 61 = .ok (.lastore, 1) := by decide +kernel
theorem d_D_putBack_62 : decode c_D_putBack 62 = .ok (.lload_n 3, 1) := by decide +kernel
theorem d_D_putBack_63 : decode c_D_putBack 63 = .ok (.bipush 28, 2) := by decide +kernel
theorem d_D_putBack_65 : decode c_D_putBack 65 = .ok (.lshr, 1) := by decide +kernel
theorem d_D_putBack_66 : decode c_D_putBack 66 = .ok (.lstore_n 3, 1) := by decide +kernel
theorem d_D_putBack_67 : decode c_D_putBack 67 = .ok (.iinc 5 1, 3) := by decide +kernel
theorem d_D_putBack_70 : decode c_D_putBack 70 = .ok (.goto (-57), 3) := by decide +kernel
theorem d_D_putBack_73 : decode c_D_putBack 73 = .ok (.aload_n 0, 1) := by decide +kernel
theorem d_D_putBack_74 : decode c_D_putBack 74 = .ok (.getfield 18, 3) := by decide +kernel
theorem d_D_putBack_77 : decode c_D_putBack 77 = .ok (.getfield 51, 3) := by decide +kernel
theorem d_D_putBack_80 : decode c_D_putBack 80 = .ok (.iload_n 1, 1) := by decide +kernel
theorem d_D_putBack_81 : decode c_D_putBack 81 = .ok (.iload_n 2, 1) := by decide +kernel
theorem d_D_putBack_82 : decode c_D_putBack 82 = .ok (.iadd, 1) := by decide +kernel
theorem d_D_putBack_83 : decode c_D_putBack 83 = .ok (.dup2, 1) := by decide +kernel
theorem d_D_putBack_84 : decode c_D_putBack 84 = .ok (.laload, 1) := by decide +kernel
theorem d_D_putBack_85 : decode c_D_putBack 85 = .ok (.lload_n 3, 1) := by decide +kernel
theorem d_D_putBack_86 : decode c_D_putBack 86 = .ok (.ladd, 1) := by decide +kernel
theorem d_D_putBack_87 : decode c_D_putBack 87 = .ok (.lastore, 1) := by decide +kernel
theorem d_D_putBack_88 : decode c_D_putBack 88 = .ok (.return_, 1) := by decide +kernel
theorem d_D_run_0 : decode c_D_run 0 = .ok (.aload_n 0, 1) := by decide +kernel
theorem d_D_run_1 : decode c_D_run 1 = .ok (.getfield 12, 3) := by decide +kernel
theorem d_D_run_4 : decode c_D_run 4 = .ok (.invokevirtual 24, 3) := by decide +kernel
theorem d_D_run_7 : decode c_D_run 7 = .ok (.aload_n 2, 1) := by decide +kernel
theorem d_D_run_8 : decode c_D_run 8 = .ok (.invokevirtual 27, 3) := by decide +kernel
theorem d_D_run_11 : decode c_D_run 11 = .ok (.ifCond .ne 11, 3) := by decide +kernel
theorem d_D_run_14 : decode c_D_run 14 = .ok (.aload_n 1, 1) := by decide +kernel
theorem d_D_run_15 : decode c_D_run 15 = .ok (.aload_n 2, 1) := by decide +kernel
theorem d_D_run_16 : decode c_D_run 16 = .ok (.invokevirtual 31, 3) := by decide +kernel
theorem d_D_run_19 : decode c_D_run 19 = .ok (.ifCond .ge 12, 3) := by decide +kernel
theorem d_D_run_22 : decode c_D_run 22 = .ok (.aload_n 0, 1) := by decide +kernel
theorem d_D_run_23 : decode c_D_run 23 = .ok (.getfield 18, 3) := by decide +kernel
theorem d_D_run_26 : decode c_D_run 26 = .ok (.aload_n 1, 1) := by decide +kernel
theorem d_D_run_27 : decode c_D_run 27 = .ok (.invokevirtual 35, 3) := by decide +kernel
theorem d_D_run_30 : decode c_D_run 30 = .ok (.return_, 1) := by decide +kernel
theorem d_D_run_31 : decode c_D_run 31 = .ok (.aload_n 2, 1) := by decide +kernel
theorem d_D_run_32 : decode c_D_run 32 = .ok (.invokevirtual 39, 3) := by decide +kernel
theorem d_D_run_35 : decode c_D_run 35 = .ok (.istore_n 3, 1) := by decide +kernel
theorem d_D_run_36 : decode c_D_run 36 = .ok (.aload_n 0, 1) := by decide +kernel
theorem d_D_run_37 : decode c_D_run 37 = .ok (.getfield 21, 3) := by decide +kernel
theorem d_D_run_40 : decode c_D_run 40 = .ok (.aload_n 2, 1) := by decide +kernel
theorem d_D_run_41 : decode c_D_run 41 = .ok (.iload_n 3, 1) := by decide +kernel
theorem d_D_run_42 : decode c_D_run 42 = .ok (.invokevirtual 43, 3) := by decide +kernel
theorem d_D_run_45 : decode c_D_run 45 = .ok (.aload_n 0, 1) := by decide +kernel
theorem d_D_run_46 : decode c_D_run 46 = .ok (.getfield 18, 3) := by decide +kernel
theorem d_D_run_49 : decode c_D_run 49 = .ok (.aload_n 1, 1) := by decide +kernel
theorem d_D_run_50 : decode c_D_run 50 = .ok (.iload_n 3, 1) := by decide +kernel
theorem d_D_run_51 : decode c_D_run 51 = .ok (.invokevirtual 43, 3) := by decide +kernel
theorem d_D_run_54 : decode c_D_run 54 = .ok (.aload_n 0, 1) := by decide +kernel
theorem d_D_run_55 : decode c_D_run 55 = .ok (.getfield 18, 3) := by decide +kernel
theorem d_D_run_58 : decode c_D_run 58 = .ok (.getfield 47, 3) := by decide +kernel
theorem d_D_run_61 : decode c_D_run 61 = .ok (.aload_n 0, 1) := by decide +kernel
theorem d_D_run_62 : decode c_D_run 62 = .ok (.getfield 21, 3) := by decide +kernel
theorem d_D_run_65 : decode c_D_run 65 = .ok (.getfield 47, 3) := by decide +kernel
theorem d_D_run_68 : decode c_D_run 68 = .ok (.isub, 1) := by decide +kernel
theorem d_D_run_69 : decode c_D_run 69 = .ok (.istore 4, 2) := by decide +kernel
theorem d_D_run_71 : decode c_D_run 71 = .ok (.iload 4, 2) := by decide +kernel
theorem d_D_run_73 : decode c_D_run 73 = .ok (.istore 5, 2) := by decide +kernel
theorem d_D_run_75 : decode c_D_run 75 = .ok (.iload 5, 2) := by decide +kernel
theorem d_D_run_77 : decode c_D_run 77 = .ok (.ifCond .lt 25, 3) := by decide +kernel
theorem d_D_run_80 : decode c_D_run 80 = .ok (.aload_n 0, 1) := by decide +kernel
theorem d_D_run_81 : decode c_D_run 81 = .ok (.getfield 12, 3) := by decide +kernel
theorem d_D_run_84 : decode c_D_run 84 = .ok (.getfield 51, 3) := by decide +kernel
theorem d_D_run_87 : decode c_D_run 87 = .ok (.iload 5, 2) := by decide +kernel
theorem d_D_run_89 : decode c_D_run 89 = .ok (.aload_n 0, 1) := by decide +kernel
theorem d_D_run_90 : decode c_D_run 90 = .ok (.iload 5, 2) := by decide +kernel
theorem d_D_run_92 : decode c_D_run 92 = .ok (.invokevirtual 55, 3) := by decide +kernel
theorem d_D_run_95 : decode c_D_run 95 = .ok (.lastore, 1) := by decide +kernel
theorem d_D_run_96 : decode c_D_run 96 = .ok (.iinc 5 (-1), 3) := by decide +kernel
theorem d_D_run_99 : decode c_D_run 99 = .ok (.goto (-24), 3) := by decide +kernel
theorem d_D_run_102 : decode c_D_run 102 = .ok (.aload_n 0, 1) := by decide +kernel
theorem d_D_run_103 : decode c_D_run 103 = .ok (.getfield 12, 3) := by decide +kernel
theorem d_D_run_106 : decode c_D_run 106 = .ok (.iload 4, 2) := by decide +kernel
theorem d_D_run_108 : decode c_D_run 108 = .ok (.iconst 1, 1) := by decide +kernel
theorem d_D_run_109 : decode c_D_run 109 = .ok (.iadd, 1) := by decide +kernel
theorem d_D_run_110 : decode c_D_run 110 = .ok (.invokevirtual 59, 3) := by decide +kernel
theorem d_D_run_113 : decode c_D_run 113 = .ok (.aload_n 0, 1) := by decide +kernel
theorem d_D_run_114 : decode c_D_run 114 = .ok (.getfield 18, 3) := by decide +kernel
theorem d_D_run_117 : decode c_D_run 117 = .ok (.aload_n 0, 1) := by decide +kernel
theorem d_D_run_118 : decode c_D_run 118 = .ok (.getfield 18, 3) := by decide +kernel
theorem d_D_run_121 : decode c_D_run 121 = .ok (.getfield 47, 3) := by decide +kernel
theorem d_D_run_124 : decode c_D_run 124 = .ok (.invokevirtual 59, 3) := by decide +kernel
theorem d_D_run_127 : decode c_D_run 127 = .ok (.aload_n 0, 1) := by decide +kernel
theorem d_D_run_128 : decode c_D_run 128 = .ok (.getfield 18, 3) := by decide +kernel
theorem d_D_run_131 : decode c_D_run 131 = .ok (.aload_n 0, 1) := by decide +kernel
theorem d_D_run_132 : decode c_D_run 132 = .ok (.getfield 18, 3) := by decide +kernel
theorem d_D_run_135 : decode c_D_run 135 = .ok (.iload_n 3, 1) := by decide +kernel
theorem d_D_run_136 : decode c_D_run 136 = .ok (.invokevirtual 63, 3) := by decide +kernel
theorem d_D_run_139 : decode c_D_run 139 = .ok (.return_, 1) := by decide +kernel
theorem d_D_stepOver_0 : decode c_D_stepOver 0 = .ok (.aload_n 0, 1) := by decide +kernel
theorem d_D_stepOver_1 : decode c_D_stepOver 1 = .ok (.getfield 12, 3) := by decide +kernel
theorem d_D_stepOver_4 : decode c_D_stepOver 4 = .ok (.invokevirtual 66, 3) := by decide +kernel
theorem d_D_stepOver_7 : decode c_D_stepOver 7 = .ok (.aload_n 0, 1) := by decide +kernel
theorem d_D_stepOver_8 : decode c_D_stepOver 8 = .ok (.getfield 18, 3) := by decide +kernel
theorem d_D_stepOver_11 : decode c_D_stepOver 11 = .ok (.aload_n 1, 1) := by decide +kernel
theorem d_D_stepOver_12 : decode c_D_stepOver 12 = .ok (.aload_n 0, 1) := by decide +kernel
theorem d_D_stepOver_13 : decode c_D_stepOver 13 = .ok (.getfield 18, 3) := by decide +kernel
theorem d_D_stepOver_16 : decode c_D_stepOver 16 = .ok (.invokevirtual 69, 3) := by decide +kernel
theorem d_D_stepOver_19 : decode c_D_stepOver 19 = .ok (.return_, 1) := by decide +kernel
theorem d_D_takeAway_0 : decode c_D_takeAway 0 = .ok (.aload_n 0, 1) := by decide +kernel
theorem d_D_takeAway_1 : decode c_D_takeAway 1 = .ok (.getfield 18, 3) := by decide +kernel
theorem d_D_takeAway_4 : decode c_D_takeAway 4 = .ok (.getfield 51, 3) := by decide +kernel
theorem d_D_takeAway_7 : decode c_D_takeAway 7 = .ok (.astore 4, 2) := by decide +kernel
theorem d_D_takeAway_9 : decode c_D_takeAway 9 = .ok (.aload_n 0, 1) := by decide +kernel
theorem d_D_takeAway_10 : decode c_D_takeAway 10 = .ok (.getfield 21, 3) := by decide +kernel
theorem d_D_takeAway_13 : decode c_D_takeAway 13 = .ok (.getfield 51, 3) := by decide +kernel
theorem d_D_takeAway_16 : decode c_D_takeAway 16 = .ok (.astore 5, 2) := by decide +kernel
theorem d_D_takeAway_18 : decode c_D_takeAway 18 = .ok (.aload_n 0, 1) := by decide +kernel
theorem d_D_takeAway_19 : decode c_D_takeAway 19 = .ok (.getfield 21, 3) := by decide +kernel
theorem d_D_takeAway_22 : decode c_D_takeAway 22 = .ok (.getfield 47, 3) := by decide +kernel
theorem d_D_takeAway_25 : decode c_D_takeAway 25 = .ok (.istore 6, 2) := by decide +kernel
theorem d_D_takeAway_27 : decode c_D_takeAway 27 = .ok (.lconst 0, 1) := by decide +kernel
theorem d_D_takeAway_28 : decode c_D_takeAway 28 = .ok (.lstore 7, 2) := by decide +kernel
theorem d_D_takeAway_30 : decode c_D_takeAway 30 = .ok (.iconst 0, 1) := by decide +kernel
theorem d_D_takeAway_31 : decode c_D_takeAway 31 = .ok (.istore 9, 2) := by decide +kernel
theorem d_D_takeAway_33 : decode c_D_takeAway 33 = .ok (.iload 9, 2) := by decide +kernel
theorem d_D_takeAway_35 : decode c_D_takeAway 35 = .ok (.iload 6, 2) := by decide +kernel
theorem d_D_takeAway_37 : decode c_D_takeAway 37 = .ok (.if_icmp .ge 49, 3) := by decide +kernel
theorem d_D_takeAway_40 : decode c_D_takeAway 40 = .ok (.lload 7, 2) := by decide +kernel
theorem d_D_takeAway_42 : decode c_D_takeAway 42 = .ok (.aload 4, 2) := by decide +kernel
theorem d_D_takeAway_44 : decode c_D_takeAway 44 = .ok (.iload_n 1, 1) := by decide +kernel
theorem d_D_takeAway_45 : decode c_D_takeAway 45 = .ok (.iload 9, 2) := by decide +kernel
theorem d_D_takeAway_47 : decode c_D_takeAway 47 = .ok (.iadd, 1) := by decide +kernel
theorem d_D_takeAway_48 : decode c_D_takeAway 48 = .ok (.laload, 1) := by decide +kernel
theorem d_D_takeAway_49 : decode c_D_takeAway 49 = .ok (.lload_n 2, 1) := by decide +kernel
theorem d_D_takeAway_50 : decode c_D_takeAway 50 = .ok (.aload 5, 2) := by decide +kernel
theorem d_D_takeAway_52 : decode c_D_takeAway 52 = .ok (.iload 9, 2) := by decide +kernel
theorem d_D_takeAway_54 : decode c_D_takeAway 54 = .ok (.laload, 1) := by decide +kernel
theorem d_D_takeAway_55 : decode c_D_takeAway 55 = .ok (.lmul, 1) := by decide +kernel
theorem d_D_takeAway_56 : decode c_D_takeAway 56 = .ok (.lsub, 1) := by decide +kernel
theorem d_D_takeAway_57 : decode c_D_takeAway 57 = .ok (.ladd, 1) := by decide +kernel
theorem d_D_takeAway_58 : decode c_D_takeAway 58 = .ok (.lstore 7, 2) := by decide +kernel
theorem d_D_takeAway_60 : decode c_D_takeAway 60 = .ok (.aload 4, 2) := by decide +kernel
theorem d_D_takeAway_62 : decode c_D_takeAway 62 = .ok (.iload_n 1, 1) := by decide +kernel
theorem d_D_takeAway_63 : decode c_D_takeAway 63 = .ok (.iload 9, 2) := by decide +kernel
theorem d_D_takeAway_65 : decode c_D_takeAway 65 = .ok (.iadd, 1) := by decide +kernel
theorem d_D_takeAway_66 : decode c_D_takeAway 66 = .ok (.lload 7, 2) := by decide +kernel
theorem d_D_takeAway_68 : decode c_D_takeAway 68 = .ok (.ldc2_w 88, 3) := by decide +kernel
theorem d_D_takeAway_71 : decode c_D_takeAway 71 = .ok (.land, 1) := by decide +kernel
theorem d_D_takeAway_72 : decode c_D_takeAway 72 = .ok (.lastore, 1) := by decide +kernel
theorem d_D_takeAway_73 : decode c_D_takeAway 73 = .ok (.lload 7, 2) := by decide +kernel
theorem d_D_takeAway_75 : decode c_D_takeAway 75 = .ok (.bipush 28, 2) := by decide +kernel
theorem d_D_takeAway_77 : decode c_D_takeAway 77 = .ok (.lshr, 1) := by decide +kernel
theorem d_D_takeAway_78 : decode c_D_takeAway 78 = .ok (.lstore 7, 2) := by decide +kernel
theorem d_D_takeAway_80 : decode c_D_takeAway 80 = .ok (.iinc 9 1, 3) := by decide +kernel
theorem d_D_takeAway_83 : decode c_D_takeAway 83 = .ok (.goto (-50), 3) := by decide +kernel
theorem d_D_takeAway_86 : decode c_D_takeAway 86 = .ok (.aload 4, 2) := by decide +kernel
theorem d_D_takeAway_88 : decode c_D_takeAway 88 = .ok (.iload_n 1, 1) := by decide +kernel
theorem d_D_takeAway_89 : decode c_D_takeAway 89 = .ok (.iload 6, 2) := by decide +kernel
theorem d_D_takeAway_91 : decode c_D_takeAway 91 = .ok (.iadd, 1) := by decide +kernel
theorem d_D_takeAway_92 : decode c_D_takeAway 92 = .ok (.dup2, 1) := by decide +kernel
theorem d_D_takeAway_93 : decode c_D_takeAway 93 = .ok (.laload, 1) := by decide +kernel
theorem d_D_takeAway_94 : decode c_D_takeAway 94 = .ok (.lload 7, 2) := by decide +kernel
theorem d_D_takeAway_96 : decode c_D_takeAway 96 = .ok (.ladd, 1) := by decide +kernel
theorem d_D_takeAway_97 : decode c_D_takeAway 97 = .ok (.lastore, 1) := by decide +kernel
theorem d_D_takeAway_98 : decode c_D_takeAway 98 = .ok (.aload 4, 2) := by decide +kernel
theorem d_D_takeAway_100 : decode c_D_takeAway 100 = .ok (.iload_n 1, 1) := by decide +kernel
theorem d_D_takeAway_101 : decode c_D_takeAway 101 = .ok (.iload 6, 2) := by decide +kernel
theorem d_D_takeAway_103 : decode c_D_takeAway 103 = .ok (.iadd, 1) := by decide +kernel
theorem d_D_takeAway_104 : decode c_D_takeAway 104 = .ok (.laload, 1) := by decide +kernel
theorem d_D_takeAway_105 : decode c_D_takeAway 105 = .ok (.lconst 0, 1) := by decide +kernel
theorem d_D_takeAway_106 : decode c_D_takeAway 106 = .ok (.lcmp, 1) := by decide +kernel
theorem d_D_takeAway_107 : decode c_D_takeAway 107 = .ok (.ifCond .lt 7, 3) := by decide +kernel
theorem d_D_takeAway_110 : decode c_D_takeAway 110 = .ok (.iconst 1, 1) := by decide +kernel
theorem d_D_takeAway_111 : decode c_D_takeAway 111 = .ok (.goto 4, 3) := by decide +kernel
theorem d_D_takeAway_114 : decode c_D_takeAway 114 = .ok (.iconst 0, 1) := by decide +kernel
theorem d_D_takeAway_115 : decode c_D_takeAway 115 = .ok (.ireturn, 1) := by decide +kernel
theorem d_E_bringFactorWithin_0 : decode c_E_bringFactorWithin 0 = .ok (.aload_n 0, 1) := by decide +kernel
theorem d_E_bringFactorWithin_1 : decode c_E_bringFactorWithin 1 = .ok (.getfield 19, 3) := by decide +kernel
theorem d_E_bringFactorWithin_4 : decode c_E_bringFactorWithin 4 = .ok (.ifCond .eq 25, 3) := by decide +kernel
theorem d_E_bringFactorWithin_7 : decode c_E_bringFactorWithin 7 = .ok (.aload_n 0, 1) := by decide +kernel
theorem d_E_bringFactorWithin_8 : decode c_E_bringFactorWithin 8 = .ok (.getfield 16, 3) := by decide +kernel
theorem d_E_bringFactorWithin_11 : decode c_E_bringFactorWithin 11 = .ok (.invokevirtual 50, 3) := by decide +kernel
theorem d_E_bringFactorWithin_14 : decode c_E_bringFactorWithin 14 = .ok (.ifCond .ne 15, 3) := by decide +kernel
theorem d_E_bringFactorWithin_17 : decode c_E_bringFactorWithin 17 = .ok (.aload_n 0, 1) := by decide +kernel
theorem d_E_bringFactorWithin_18 : decode c_E_bringFactorWithin 18 = .ok (.getfield 16, 3) := by decide +kernel
theorem d_E_bringFactorWithin_21 : decode c_E_bringFactorWithin 21 = .ok (.aload_n 1, 1) := by decide +kernel
theorem d_E_bringFactorWithin_22 : decode c_E_bringFactorWithin 22 = .ok (.aload_n 0, 1) := by decide +kernel
theorem d_E_bringFactorWithin_23 : decode c_E_bringFactorWithin 23 = .ok (.getfield 16, 3) := by decide +kernel
theorem d_E_bringFactorWithin_26 : decode c_E_bringFactorWithin 26 = .ok (.invokevirtual 70, 3) := by decide +kernel
theorem d_E_bringFactorWithin_29 : decode c_E_bringFactorWithin 29 = .ok (.return_, 1) := by decide +kernel
theorem d_E_run_0 : decode c_E_run 0 = .ok (.aload_n 0, 1) := by decide +kernel
theorem d_E_run_1 : decode c_E_run 1 = .ok (.getfield 10, 3) := by decide +kernel
theorem d_E_run_4 : decode c_E_run 4 = .ok (.aload_n 1, 1) := by decide +kernel
theorem d_E_run_5 : decode c_E_run 5 = .ok (.invokevirtual 39, 3) := by decide +kernel
theorem d_E_run_8 : decode c_E_run 8 = .ok (.aload_n 0, 1) := by decide +kernel
theorem d_E_run_9 : decode c_E_run 9 = .ok (.getfield 23, 3) := by decide +kernel
theorem d_E_run_12 : decode c_E_run 12 = .ok (.aload_n 2, 1) := by decide +kernel
theorem d_E_run_13 : decode c_E_run 13 = .ok (.invokevirtual 39, 3) := by decide +kernel
theorem d_E_run_16 : decode c_E_run 16 = .ok (.aload_n 0, 1) := by decide +kernel
theorem d_E_run_17 : decode c_E_run 17 = .ok (.getfield 16, 3) := by decide +kernel
theorem d_E_run_20 : decode c_E_run 20 = .ok (.invokevirtual 43, 3) := by decide +kernel
theorem d_E_run_23 : decode c_E_run 23 = .ok (.aload_n 0, 1) := by decide +kernel
theorem d_E_run_24 : decode c_E_run 24 = .ok (.getfield 26, 3) := by decide +kernel
theorem d_E_run_27 : decode c_E_run 27 = .ok (.lconst 1, 1) := by decide +kernel
theorem d_E_run_28 : decode c_E_run 28 = .ok (.invokevirtual 46, 3) := by decide +kernel
theorem d_E_run_31 : decode c_E_run 31 = .ok (.aload_n 0, 1) := by decide +kernel
theorem d_E_run_32 : decode c_E_run 32 = .ok (.iconst 1, 1) := by decide +kernel
theorem d_E_run_33 : decode c_E_run 33 = .ok (.putfield 19, 3) := by decide +kernel
theorem d_E_run_36 : decode c_E_run 36 = .ok (.iconst 0, 1) := by decide +kernel
theorem d_E_run_37 : decode c_E_run 37 = .ok (.istore_n 3, 1) := by decide +kernel
theorem d_E_run_38 : decode c_E_run 38 = .ok (.iload_n 3, 1) := by decide +kernel
theorem d_E_run_39 : decode c_E_run 39 = .ok (.sipush 10000, 3) := by decide +kernel
theorem d_E_run_42 : decode c_E_run 42 = .ok (.if_icmp .ge 130, 3) := by decide +kernel
theorem d_E_run_45 : decode c_E_run 45 = .ok (.aload_n 0, 1) := by decide +kernel
theorem d_E_run_46 : decode c_E_run 46 = .ok (.getfield 23, 3) := by decide +kernel
theorem d_E_run_49 : decode c_E_run 49 = .ok (.invokevirtual 50, 3) := by decide +kernel
theorem d_E_run_52 : decode c_E_run 52 = .ok (.ifCond .ne 120, 3) := by decide +kernel
theorem d_E_run_55 : decode c_E_run 55 = .ok (.aload_n 0, 1) := by decide +kernel
theorem d_E_run_56 : decode c_E_run 56 = .ok (.getfield 35, 3) := by decide +kernel
theorem d_E_run_59 : decode c_E_run 59 = .ok (.aload_n 0, 1) := by decide +kernel
theorem d_E_run_60 : decode c_E_run 60 = .ok (.getfield 10, 3) := by decide +kernel
theorem d_E_run_63 : decode c_E_run 63 = .ok (.aload_n 0, 1) := by decide +kernel
theorem d_E_run_64 : decode c_E_run 64 = .ok (.getfield 23, 3) := by decide +kernel
theorem d_E_run_67 : decode c_E_run 67 = .ok (.invokevirtual 54, 3) := by decide +kernel
theorem d_E_run_70 : decode c_E_run 70 = .ok (.aload_n 0, 1) := by decide +kernel
theorem d_E_run_71 : decode c_E_run 71 = .ok (.getfield 10, 3) := by decide +kernel
theorem d_E_run_74 : decode c_E_run 74 = .ok (.aload_n 0, 1) := by decide +kernel
theorem d_E_run_75 : decode c_E_run 75 = .ok (.getfield 23, 3) := by decide +kernel
theorem d_E_run_78 : decode c_E_run 78 = .ok (.invokevirtual 39, 3) := by decide +kernel
theorem d_E_run_81 : decode c_E_run 81 = .ok (.aload_n 0, 1) := by decide +kernel
theorem d_E_run_82 : decode c_E_run 82 = .ok (.getfield 23, 3) := by decide +kernel
theorem d_E_run_85 : decode c_E_run 85 = .ok (.aload_n 0, 1) := by decide +kernel
theorem d_E_run_86 : decode c_E_run 86 = .ok (.getfield 35, 3) := by decide +kernel
theorem d_E_run_89 : decode c_E_run 89 = .ok (.getfield 58, 3) := by decide +kernel
theorem d_E_run_92 : decode c_E_run 92 = .ok (.invokevirtual 39, 3) := by decide +kernel
theorem d_E_run_95 : decode c_E_run 95 = .ok (.aload_n 0, 1) := by decide +kernel
theorem d_E_run_96 : decode c_E_run 96 = .ok (.getfield 29, 3) := by decide +kernel
theorem d_E_run_99 : decode c_E_run 99 = .ok (.aload_n 0, 1) := by decide +kernel
theorem d_E_run_100 : decode c_E_run 100 = .ok (.getfield 35, 3) := by decide +kernel
theorem d_E_run_103 : decode c_E_run 103 = .ok (.getfield 61, 3) := by decide +kernel
theorem d_E_run_106 : decode c_E_run 106 = .ok (.aload_n 0, 1) := by decide +kernel
theorem d_E_run_107 : decode c_E_run 107 = .ok (.getfield 26, 3) := by decide +kernel
theorem d_E_run_110 : decode c_E_run 110 = .ok (.invokevirtual 64, 3) := by decide +kernel
theorem d_E_run_113 : decode c_E_run 113 = .ok (.aload_n 0, 1) := by decide +kernel
theorem d_E_run_114 : decode c_E_run 114 = .ok (.getfield 29, 3) := by decide +kernel
theorem d_E_run_117 : decode c_E_run 117 = .ok (.aload_n 0, 1) := by decide +kernel
theorem d_E_run_118 : decode c_E_run 118 = .ok (.getfield 29, 3) := by decide +kernel
theorem d_E_run_121 : decode c_E_run 121 = .ok (.aload_n 0, 1) := by decide +kernel
theorem d_E_run_122 : decode c_E_run 122 = .ok (.getfield 16, 3) := by decide +kernel
theorem d_E_run_125 : decode c_E_run 125 = .ok (.invokevirtual 67, 3) := by decide +kernel
theorem d_E_run_128 : decode c_E_run 128 = .ok (.aload_n 0, 1) := by decide +kernel
theorem d_E_run_129 : decode c_E_run 129 = .ok (.getfield 16, 3) := by decide +kernel
theorem d_E_run_132 : decode c_E_run 132 = .ok (.aload_n 0, 1) := by decide +kernel
theorem d_E_run_133 : decode c_E_run 133 = .ok (.getfield 26, 3) := by decide +kernel
theorem d_E_run_136 : decode c_E_run 136 = .ok (.invokevirtual 39, 3) := by decide +kernel
theorem d_E_run_139 : decode c_E_run 139 = .ok (.aload_n 0, 1) := by decide +kernel
theorem d_E_run_140 : decode c_E_run 140 = .ok (.getfield 26, 3) := by decide +kernel
theorem d_E_run_143 : decode c_E_run 143 = .ok (.aload_n 0, 1) := by decide +kernel
theorem d_E_run_144 : decode c_E_run 144 = .ok (.getfield 29, 3) := by decide +kernel
theorem d_E_run_147 : decode c_E_run 147 = .ok (.invokevirtual 39, 3) := by decide +kernel
theorem d_E_run_150 : decode c_E_run 150 = .ok (.aload_n 0, 1) := by decide +kernel
theorem d_E_run_151 : decode c_E_run 151 = .ok (.aload_n 0, 1) := by decide +kernel
theorem d_E_run_152 : decode c_E_run 152 = .ok (.getfield 19, 3) := by decide +kernel
theorem d_E_run_155 : decode c_E_run 155 = .ok (.ifCond .ne 7, 3) := by decide +kernel
theorem d_E_run_158 : decode c_E_run 158 = .ok (.iconst 1, 1) := by decide +kernel
theorem d_E_run_159 : decode c_E_run 159 = .ok (.goto 4, 3) := by decide +kernel
theorem d_E_run_162 : decode c_E_run 162 = .ok (.iconst 0, 1) := by decide +kernel
theorem d_E_run_163 : decode c_E_run 163 = .ok (.putfield 19, 3) := by decide +kernel
theorem d_E_run_166 : decode c_E_run 166 = .ok (.iinc 3 1, 3) := by decide +kernel
theorem d_E_run_169 : decode c_E_run 169 = .ok (.goto (-131), 3) := by decide +kernel
theorem d_E_run_172 : decode c_E_run 172 = .ok (.return_, 1) := by decide +kernel
theorem d_O_isTrialWithin_0 : decode c_O_isTrialWithin 0 = .ok (.aload_n 0, 1) := by decide +kernel
theorem d_O_isTrialWithin_1 : decode c_O_isTrialWithin 1 = .ok (.getfield 19, 3) := by decide +kernel
theorem d_O_isTrialWithin_4 : decode c_O_isTrialWithin 4 = .ok (.aload_n 0, 1) := by decide +kernel
theorem d_O_isTrialWithin_5 : decode c_O_isTrialWithin 5 = .ok (.getfield 16, 3) := by decide +kernel
theorem d_O_isTrialWithin_8 : decode c_O_isTrialWithin 8 = .ok (.invokevirtual 36, 3) := by decide +kernel
theorem d_O_isTrialWithin_11 : decode c_O_isTrialWithin 11 = .ok (.aload_n 0, 1) := by decide +kernel
theorem d_O_isTrialWithin_12 : decode c_O_isTrialWithin 12 = .ok (.getfield 19, 3) := by decide +kernel
theorem d_O_isTrialWithin_15 : decode c_O_isTrialWithin 15 = .ok (.aload_n 1, 1) := by decide +kernel
theorem d_O_isTrialWithin_16 : decode c_O_isTrialWithin 16 = .ok (.invokevirtual 48, 3) := by decide +kernel
theorem d_O_isTrialWithin_19 : decode c_O_isTrialWithin 19 = .ok (.ifCond .gt 7, 3) := by decide +kernel
theorem d_O_isTrialWithin_22 : decode c_O_isTrialWithin 22 = .ok (.iconst 1, 1) := by decide +kernel
theorem d_O_isTrialWithin_23 : decode c_O_isTrialWithin 23 = .ok (.goto 4, 3) := by decide +kernel
theorem d_O_isTrialWithin_26 : decode c_O_isTrialWithin 26 = .ok (.iconst 0, 1) := by decide +kernel
theorem d_O_isTrialWithin_27 : decode c_O_isTrialWithin 27 = .ok (.istore_n 3, 1) := by decide +kernel
theorem d_O_isTrialWithin_28 : decode c_O_isTrialWithin 28 = .ok (.bipush 30, 2) := by decide +kernel
theorem d_O_isTrialWithin_30 : decode c_O_isTrialWithin 30 = .ok (.iload_n 2, 1) := by decide +kernel
theorem d_O_isTrialWithin_31 : decode c_O_isTrialWithin 31 = .ok (.invokestatic 52, 3) := by decide +kernel
theorem d_O_isTrialWithin_34 : decode c_O_isTrialWithin 34 = .ok (.isub, 1) := by decide +kernel
theorem d_O_isTrialWithin_35 : decode c_O_isTrialWithin 35 = .ok (.istore 4, 2) := by decide +kernel
theorem d_O_isTrialWithin_37 : decode c_O_isTrialWithin 37 = .ok (.iload 4, 2) := by decide +kernel
theorem d_O_isTrialWithin_39 : decode c_O_isTrialWithin 39 = .ok (.ifCond .lt 109, 3) := by decide +kernel
theorem d_O_isTrialWithin_42 : decode c_O_isTrialWithin 42 = .ok (.iload_n 3, 1) := by decide +kernel
theorem d_O_isTrialWithin_43 : decode c_O_isTrialWithin 43 = .ok (.ifCond .eq 105, 3) := by decide +kernel
theorem d_O_isTrialWithin_46 : decode c_O_isTrialWithin 46 = .ok (.aload_n 0, 1) := by decide +kernel
theorem d_O_isTrialWithin_47 : decode c_O_isTrialWithin 47 = .ok (.getfield 22, 3) := by decide +kernel
theorem d_O_isTrialWithin_50 : decode c_O_isTrialWithin 50 = .ok (.aload_n 0, 1) := by decide +kernel
theorem d_O_isTrialWithin_51 : decode c_O_isTrialWithin 51 = .ok (.getfield 19, 3) := by decide +kernel
theorem d_O_isTrialWithin_54 : decode c_O_isTrialWithin 54 = .ok (.invokevirtual 58, 3) := by decide +kernel
theorem d_O_isTrialWithin_57 : decode c_O_isTrialWithin 57 = .ok (.aload_n 0, 1) := by decide +kernel
theorem d_O_isTrialWithin_58 : decode c_O_isTrialWithin 58 = .ok (.getfield 22, 3) := by decide +kernel
theorem d_O_isTrialWithin_61 : decode c_O_isTrialWithin 61 = .ok (.aload_n 1, 1) := by decide +kernel
theorem d_O_isTrialWithin_62 : decode c_O_isTrialWithin 62 = .ok (.invokevirtual 48, 3) := by decide +kernel
theorem d_O_isTrialWithin_65 : decode c_O_isTrialWithin 65 = .ok (.ifCond .gt 7, 3) := by decide +kernel
theorem d_O_isTrialWithin_68 : decode c_O_isTrialWithin 68 = .ok (.iconst 1, 1) := by decide +kernel
theorem d_O_isTrialWithin_69 : decode c_O_isTrialWithin 69 = .ok (.goto 4, 3) := by decide +kernel
theorem d_O_isTrialWithin_72 : decode c_O_isTrialWithin 72 = .ok (.iconst 0, 1) := by decide +kernel
theorem d_O_isTrialWithin_73 : decode c_O_isTrialWithin 73 = .ok (.istore_n 3, 1) := by decide +kernel
theorem d_O_isTrialWithin_74 : decode c_O_isTrialWithin 74 = .ok (.aload_n 0, 1) := by decide +kernel
theorem d_O_isTrialWithin_75 : decode c_O_isTrialWithin 75 = .ok (.getfield 19, 3) := by decide +kernel
theorem d_O_isTrialWithin_78 : decode c_O_isTrialWithin 78 = .ok (.aload_n 0, 1) := by decide +kernel
theorem d_O_isTrialWithin_79 : decode c_O_isTrialWithin 79 = .ok (.getfield 22, 3) := by decide +kernel
theorem d_O_isTrialWithin_82 : decode c_O_isTrialWithin 82 = .ok (.invokevirtual 36, 3) := by decide +kernel
theorem d_O_isTrialWithin_85 : decode c_O_isTrialWithin 85 = .ok (.iload_n 3, 1) := by decide +kernel
theorem d_O_isTrialWithin_86 : decode c_O_isTrialWithin 86 = .ok (.ifCond .eq 56, 3) := by decide +kernel
theorem d_O_isTrialWithin_89 : decode c_O_isTrialWithin 89 = .ok (.iload_n 2, 1) := by decide +kernel
theorem d_O_isTrialWithin_90 : decode c_O_isTrialWithin 90 = .ok (.iload 4, 2) := by decide +kernel
theorem d_O_isTrialWithin_92 : decode c_O_isTrialWithin 92 = .ok (.ishr, 1) := by decide +kernel
theorem d_O_isTrialWithin_93 : decode c_O_isTrialWithin 93 = .ok (.iconst 1, 1) := by decide +kernel
theorem d_O_isTrialWithin_94 : decode c_O_isTrialWithin 94 = .ok (.iand, 1) := by decide +kernel
theorem d_O_isTrialWithin_95 : decode c_O_isTrialWithin 95 = .ok (.iconst 1, 1) := by decide +kernel
theorem d_O_isTrialWithin_96 : decode c_O_isTrialWithin 96 = .ok (.if_icmp .ne 46, 3) := by decide +kernel
theorem d_O_isTrialWithin_99 : decode c_O_isTrialWithin 99 = .ok (.aload_n 0, 1) := by decide +kernel
theorem d_O_isTrialWithin_100 : decode c_O_isTrialWithin 100 = .ok (.getfield 22, 3) := by decide +kernel
theorem d_O_isTrialWithin_103 : decode c_O_isTrialWithin 103 = .ok (.aload_n 0, 1) := by decide +kernel
theorem d_O_isTrialWithin_104 : decode c_O_isTrialWithin 104 = .ok (.getfield 19, 3) := by decide +kernel
theorem d_O_isTrialWithin_107 : decode c_O_isTrialWithin 107 = .ok (.aload_n 0, 1) := by decide +kernel
theorem d_O_isTrialWithin_108 : decode c_O_isTrialWithin 108 = .ok (.getfield 16, 3) := by decide +kernel
theorem d_O_isTrialWithin_111 : decode c_O_isTrialWithin 111 = .ok (.invokevirtual 61, 3) := by decide +kernel
theorem d_O_isTrialWithin_114 : decode c_O_isTrialWithin 114 = .ok (.aload_n 0, 1) := by decide +kernel
theorem d_O_isTrialWithin_115 : decode c_O_isTrialWithin 115 = .ok (.getfield 22, 3) := by decide +kernel
theorem d_O_isTrialWithin_118 : decode c_O_isTrialWithin 118 = .ok (.aload_n 1, 1) := by decide +kernel
theorem d_O_isTrialWithin_119 : decode c_O_isTrialWithin 119 = .ok (.invokevirtual 48, 3) := by decide +kernel
theorem d_O_isTrialWithin_122 : decode c_O_isTrialWithin 122 = .ok (.ifCond .gt 7, 3) := by decide +kernel
theorem d_O_isTrialWithin_125 : decode c_O_isTrialWithin 125 = .ok (.iconst 1, 1) := by decide +kernel
theorem d_O_isTrialWithin_126 : decode c_O_isTrialWithin 126 = .ok (.goto 4, 3) := by decide +kernel
theorem d_O_isTrialWithin_129 : decode c_O_isTrialWithin 129 = .ok (.iconst 0, 1) := by decide +kernel
theorem d_O_isTrialWithin_130 : decode c_O_isTrialWithin 130 = .ok (.istore_n 3, 1) := by decide +kernel
theorem d_O_isTrialWithin_131 : decode c_O_isTrialWithin 131 = .ok (.aload_n 0, 1) := by decide +kernel
theorem d_O_isTrialWithin_132 : decode c_O_isTrialWithin 132 = .ok (.getfield 19, 3) := by decide +kernel
theorem d_O_isTrialWithin_135 : decode c_O_isTrialWithin 135 = .ok (.aload_n 0, 1) := by decide +kernel
theorem d_O_isTrialWithin_136 : decode c_O_isTrialWithin 136 = .ok (.getfield 22, 3) := by decide +kernel
theorem d_O_isTrialWithin_139 : decode c_O_isTrialWithin 139 = .ok (.invokevirtual 36, 3) := by decide +kernel
theorem d_O_isTrialWithin_142 : decode c_O_isTrialWithin 142 = .ok (.iinc 4 (-1), 3) := by decide +kernel
theorem d_O_isTrialWithin_145 : decode c_O_isTrialWithin 145 = .ok (.goto (-108), 3) := by decide +kernel
theorem d_O_isTrialWithin_148 : decode c_O_isTrialWithin 148 = .ok (.iload_n 3, 1) := by decide +kernel
theorem d_O_isTrialWithin_149 : decode c_O_isTrialWithin 149 = .ok (.ireturn, 1) := by decide +kernel
theorem d_O_run_0 : decode c_O_run 0 = .ok (.aload_n 0, 1) := by decide +kernel
theorem d_O_run_1 : decode c_O_run 1 = .ok (.getfield 10, 3) := by decide +kernel
theorem d_O_run_4 : decode c_O_run 4 = .ok (.invokevirtual 25, 3) := by decide +kernel
theorem d_O_run_7 : decode c_O_run 7 = .ok (.aload_n 1, 1) := by decide +kernel
theorem d_O_run_8 : decode c_O_run 8 = .ok (.invokevirtual 28, 3) := by decide +kernel
theorem d_O_run_11 : decode c_O_run 11 = .ok (.ifCond .ne 8, 3) := by decide +kernel
theorem d_O_run_14 : decode c_O_run 14 = .ok (.iload_n 2, 1) := by decide +kernel
theorem d_O_run_15 : decode c_O_run 15 = .ok (.iconst 1, 1) := by decide +kernel
theorem d_O_run_16 : decode c_O_run 16 = .ok (.if_icmp .ge 4, 3) := by decide +kernel
theorem d_O_run_19 : decode c_O_run 19 = .ok (.return_, 1) := by decide +kernel
theorem d_O_run_20 : decode c_O_run 20 = .ok (.aload_n 1, 1) := by decide +kernel
theorem d_O_run_21 : decode c_O_run 21 = .ok (.invokevirtual 32, 3) := by decide +kernel
theorem d_O_run_24 : decode c_O_run 24 = .ok (.iconst 1, 1) := by decide +kernel
theorem d_O_run_25 : decode c_O_run 25 = .ok (.isub, 1) := by decide +kernel
theorem d_O_run_26 : decode c_O_run 26 = .ok (.iload_n 2, 1) := by decide +kernel
theorem d_O_run_27 : decode c_O_run 27 = .ok (.idiv, 1) := by decide +kernel
theorem d_O_run_28 : decode c_O_run 28 = .ok (.istore_n 3, 1) := by decide +kernel
theorem d_O_run_29 : decode c_O_run 29 = .ok (.iload_n 3, 1) := by decide +kernel
theorem d_O_run_30 : decode c_O_run 30 = .ok (.ifCond .lt 48, 3) := by decide +kernel
theorem d_O_run_33 : decode c_O_run 33 = .ok (.aload_n 0, 1) := by decide +kernel
theorem d_O_run_34 : decode c_O_run 34 = .ok (.getfield 16, 3) := by decide +kernel
theorem d_O_run_37 : decode c_O_run 37 = .ok (.aload_n 0, 1) := by decide +kernel
theorem d_O_run_38 : decode c_O_run 38 = .ok (.getfield 10, 3) := by decide +kernel
theorem d_O_run_41 : decode c_O_run 41 = .ok (.invokevirtual 36, 3) := by decide +kernel
theorem d_O_run_44 : decode c_O_run 44 = .ok (.aload_n 0, 1) := by decide +kernel
theorem d_O_run_45 : decode c_O_run 45 = .ok (.getfield 16, 3) := by decide +kernel
theorem d_O_run_48 : decode c_O_run 48 = .ok (.iload_n 3, 1) := by decide +kernel
theorem d_O_run_49 : decode c_O_run 49 = .ok (.invokevirtual 40, 3) := by decide +kernel
theorem d_O_run_52 : decode c_O_run 52 = .ok (.aload_n 0, 1) := by decide +kernel
theorem d_O_run_53 : decode c_O_run 53 = .ok (.aload_n 1, 1) := by decide +kernel
theorem d_O_run_54 : decode c_O_run 54 = .ok (.iload_n 2, 1) := by decide +kernel
theorem d_O_run_55 : decode c_O_run 55 = .ok (.invokevirtual 44, 3) := by decide +kernel
theorem d_O_run_58 : decode c_O_run 58 = .ok (.ifCond .eq 14, 3) := by decide +kernel
theorem d_O_run_61 : decode c_O_run 61 = .ok (.aload_n 0, 1) := by decide +kernel
theorem d_O_run_62 : decode c_O_run 62 = .ok (.getfield 10, 3) := by decide +kernel
theorem d_O_run_65 : decode c_O_run 65 = .ok (.aload_n 0, 1) := by decide +kernel
theorem d_O_run_66 : decode c_O_run 66 = .ok (.getfield 16, 3) := by decide +kernel
theorem d_O_run_69 : decode c_O_run 69 = .ok (.invokevirtual 36, 3) := by decide +kernel
theorem d_O_run_72 : decode c_O_run 72 = .ok (.iinc 3 (-1), 3) := by decide +kernel
theorem d_O_run_75 : decode c_O_run 75 = .ok (.goto (-46), 3) := by decide +kernel
theorem d_O_run_78 : decode c_O_run 78 = .ok (.return_, 1) := by decide +kernel
theorem d_S_raise_0 : decode c_S_raise 0 = .ok (.aload_n 0, 1) := by decide +kernel
theorem d_S_raise_1 : decode c_S_raise 1 = .ok (.aload_n 1, 1) := by decide +kernel
theorem d_S_raise_2 : decode c_S_raise 2 = .ok (.aload_n 3, 1) := by decide +kernel
theorem d_S_raise_3 : decode c_S_raise 3 = .ok (.invokevirtual 56, 3) := by decide +kernel
theorem d_S_raise_6 : decode c_S_raise 6 = .ok (.aload_n 0, 1) := by decide +kernel
theorem d_S_raise_7 : decode c_S_raise 7 = .ok (.getfield 16, 3) := by decide +kernel
theorem d_S_raise_10 : decode c_S_raise 10 = .ok (.aload_n 0, 1) := by decide +kernel
theorem d_S_raise_11 : decode c_S_raise 11 = .ok (.getfield 10, 3) := by decide +kernel
theorem d_S_raise_14 : decode c_S_raise 14 = .ok (.invokevirtual 41, 3) := by decide +kernel
theorem d_S_raise_17 : decode c_S_raise 17 = .ok (.aload_n 0, 1) := by decide +kernel
theorem d_S_raise_18 : decode c_S_raise 18 = .ok (.getfield 19, 3) := by decide +kernel
theorem d_S_raise_21 : decode c_S_raise 21 = .ok (.lconst 1, 1) := by decide +kernel
theorem d_S_raise_22 : decode c_S_raise 22 = .ok (.invokevirtual 60, 3) := by decide +kernel
theorem d_S_raise_25 : decode c_S_raise 25 = .ok (.aload_n 0, 1) := by decide +kernel
theorem d_S_raise_26 : decode c_S_raise 26 = .ok (.aload_n 3, 1) := by decide +kernel
theorem d_S_raise_27 : decode c_S_raise 27 = .ok (.invokevirtual 64, 3) := by decide +kernel
theorem d_S_raise_30 : decode c_S_raise 30 = .ok (.aload_n 2, 1) := by decide +kernel
theorem d_S_raise_31 : decode c_S_raise 31 = .ok (.invokevirtual 67, 3) := by decide +kernel
theorem d_S_raise_34 : decode c_S_raise 34 = .ok (.iconst 1, 1) := by decide +kernel
theorem d_S_raise_35 : decode c_S_raise 35 = .ok (.isub, 1) := by decide +kernel
theorem d_S_raise_36 : decode c_S_raise 36 = .ok (.istore 4, 2) := by decide +kernel
theorem d_S_raise_38 : decode c_S_raise 38 = .ok (.iload 4, 2) := by decide +kernel
theorem d_S_raise_40 : decode c_S_raise 40 = .ok (.ifCond .lt 54, 3) := by decide +kernel
theorem d_S_raise_43 : decode c_S_raise 43 = .ok (.aload_n 0, 1) := by decide +kernel
theorem d_S_raise_44 : decode c_S_raise 44 = .ok (.getfield 19, 3) := by decide +kernel
theorem d_S_raise_47 : decode c_S_raise 47 = .ok (.aload_n 0, 1) := by decide +kernel
theorem d_S_raise_48 : decode c_S_raise 48 = .ok (.getfield 10, 3) := by decide +kernel
theorem d_S_raise_51 : decode c_S_raise 51 = .ok (.invokevirtual 71, 3) := by decide +kernel
theorem d_S_raise_54 : decode c_S_raise 54 = .ok (.aload_n 0, 1) := by decide +kernel
theorem d_S_raise_55 : decode c_S_raise 55 = .ok (.aload_n 3, 1) := by decide +kernel
theorem d_S_raise_56 : decode c_S_raise 56 = .ok (.invokevirtual 64, 3) := by decide +kernel
theorem d_S_raise_59 : decode c_S_raise 59 = .ok (.aload_n 2, 1) := by decide +kernel
theorem d_S_raise_60 : decode c_S_raise 60 = .ok (.iload 4, 2) := by decide +kernel
theorem d_S_raise_62 : decode c_S_raise 62 = .ok (.invokevirtual 74, 3) := by decide +kernel
theorem d_S_raise_65 : decode c_S_raise 65 = .ok (.ifCond .eq 23, 3) := by decide +kernel
theorem d_S_raise_68 : decode c_S_raise 68 = .ok (.aload_n 0, 1) := by decide +kernel
theorem d_S_raise_69 : decode c_S_raise 69 = .ok (.getfield 19, 3) := by decide +kernel
theorem d_S_raise_72 : decode c_S_raise 72 = .ok (.aload_n 0, 1) := by decide +kernel
theorem d_S_raise_73 : decode c_S_raise 73 = .ok (.getfield 10, 3) := by decide +kernel
theorem d_S_raise_76 : decode c_S_raise 76 = .ok (.aload_n 0, 1) := by decide +kernel
theorem d_S_raise_77 : decode c_S_raise 77 = .ok (.getfield 16, 3) := by decide +kernel
theorem d_S_raise_80 : decode c_S_raise 80 = .ok (.invokevirtual 78, 3) := by decide +kernel
theorem d_S_raise_83 : decode c_S_raise 83 = .ok (.aload_n 0, 1) := by decide +kernel
theorem d_S_raise_84 : decode c_S_raise 84 = .ok (.aload_n 3, 1) := by decide +kernel
theorem d_S_raise_85 : decode c_S_raise 85 = .ok (.invokevirtual 64, 3) := by decide +kernel
theorem d_S_raise_88 : decode c_S_raise 88 = .ok (.iinc 4 (-1), 3) := by decide +kernel
theorem d_S_raise_91 : decode c_S_raise 91 = .ok (.goto (-53), 3) := by decide +kernel
theorem d_S_raise_94 : decode c_S_raise 94 = .ok (.return_, 1) := by decide +kernel
theorem d_S_reduce_0 : decode c_S_reduce 0 = .ok (.aload_n 0, 1) := by decide +kernel
theorem d_S_reduce_1 : decode c_S_reduce 1 = .ok (.getfield 25, 3) := by decide +kernel
theorem d_S_reduce_4 : decode c_S_reduce 4 = .ok (.aload_n 1, 1) := by decide +kernel
theorem d_S_reduce_5 : decode c_S_reduce 5 = .ok (.getfield 29, 3) := by decide +kernel
theorem d_S_reduce_8 : decode c_S_reduce 8 = .ok (.aload_n 2, 1) := by decide +kernel
theorem d_S_reduce_9 : decode c_S_reduce 9 = .ok (.invokevirtual 34, 3) := by decide +kernel
theorem d_S_reduce_12 : decode c_S_reduce 12 = .ok (.aload_n 0, 1) := by decide +kernel
theorem d_S_reduce_13 : decode c_S_reduce 13 = .ok (.getfield 10, 3) := by decide +kernel
theorem d_S_reduce_16 : decode c_S_reduce 16 = .ok (.aload_n 0, 1) := by decide +kernel
theorem d_S_reduce_17 : decode c_S_reduce 17 = .ok (.getfield 25, 3) := by decide +kernel
theorem d_S_reduce_20 : decode c_S_reduce 20 = .ok (.getfield 38, 3) := by decide +kernel
theorem d_S_reduce_23 : decode c_S_reduce 23 = .ok (.invokevirtual 41, 3) := by decide +kernel
theorem d_S_reduce_26 : decode c_S_reduce 26 = .ok (.aload_n 1, 1) := by decide +kernel
theorem d_S_reduce_27 : decode c_S_reduce 27 = .ok (.getfield 45, 3) := by decide +kernel
theorem d_S_reduce_30 : decode c_S_reduce 30 = .ok (.ifCond .eq 25, 3) := by decide +kernel
theorem d_S_reduce_33 : decode c_S_reduce 33 = .ok (.aload_n 0, 1) := by decide +kernel
theorem d_S_reduce_34 : decode c_S_reduce 34 = .ok (.getfield 10, 3) := by decide +kernel
theorem d_S_reduce_37 : decode c_S_reduce 37 = .ok (.invokevirtual 49, 3) := by decide +kernel
theorem d_S_reduce_40 : decode c_S_reduce 40 = .ok (.ifCond .ne 15, 3) := by decide +kernel
theorem d_S_reduce_43 : decode c_S_reduce 43 = .ok (.aload_n 0, 1) := by decide +kernel
theorem d_S_reduce_44 : decode c_S_reduce 44 = .ok (.getfield 10, 3) := by decide +kernel
theorem d_S_reduce_47 : decode c_S_reduce 47 = .ok (.aload_n 2, 1) := by decide +kernel
theorem d_S_reduce_48 : decode c_S_reduce 48 = .ok (.aload_n 0, 1) := by decide +kernel
theorem d_S_reduce_49 : decode c_S_reduce 49 = .ok (.getfield 10, 3) := by decide +kernel
theorem d_S_reduce_52 : decode c_S_reduce 52 = .ok (.invokevirtual 53, 3) := by decide +kernel
theorem d_S_reduce_55 : decode c_S_reduce 55 = .ok (.return_, 1) := by decide +kernel
theorem d_S_reduceProduct_0 : decode c_S_reduceProduct 0 = .ok (.aload_n 0, 1) := by decide +kernel
theorem d_S_reduceProduct_1 : decode c_S_reduceProduct 1 = .ok (.getfield 25, 3) := by decide +kernel
theorem d_S_reduceProduct_4 : decode c_S_reduceProduct 4 = .ok (.aload_n 0, 1) := by decide +kernel
theorem d_S_reduceProduct_5 : decode c_S_reduceProduct 5 = .ok (.getfield 19, 3) := by decide +kernel
theorem d_S_reduceProduct_8 : decode c_S_reduceProduct 8 = .ok (.aload_n 1, 1) := by decide +kernel
theorem d_S_reduceProduct_9 : decode c_S_reduceProduct 9 = .ok (.invokevirtual 34, 3) := by decide +kernel
theorem d_S_reduceProduct_12 : decode c_S_reduceProduct 12 = .ok (.aload_n 0, 1) := by decide +kernel
theorem d_S_reduceProduct_13 : decode c_S_reduceProduct 13 = .ok (.getfield 10, 3) := by decide +kernel
theorem d_S_reduceProduct_16 : decode c_S_reduceProduct 16 = .ok (.aload_n 0, 1) := by decide +kernel
theorem d_S_reduceProduct_17 : decode c_S_reduceProduct 17 = .ok (.getfield 25, 3) := by decide +kernel
theorem d_S_reduceProduct_20 : decode c_S_reduceProduct 20 = .ok (.getfield 38, 3) := by decide +kernel
theorem d_S_reduceProduct_23 : decode c_S_reduceProduct 23 = .ok (.invokevirtual 41, 3) := by decide +kernel
theorem d_S_reduceProduct_26 : decode c_S_reduceProduct 26 = .ok (.return_, 1) := by decide +kernel
theorem d_T_append_0 : decode c_T_append 0 = .ok (.aload_n 0, 1) := by decide +kernel
theorem d_T_append_1 : decode c_T_append 1 = .ok (.getfield 15, 3) := by decide +kernel
theorem d_T_append_4 : decode c_T_append 4 = .ok (.sipush 1200, 3) := by decide +kernel
theorem d_T_append_7 : decode c_T_append 7 = .ok (.if_icmp .ge 24, 3) := by decide +kernel
theorem d_T_append_10 : decode c_T_append 10 = .ok (.aload_n 0, 1) := by decide +kernel
theorem d_T_append_11 : decode c_T_append 11 = .ok (.getfield 11, 3) := by decide +kernel
theorem d_T_append_14 : decode c_T_append 14 = .ok (.aload_n 0, 1) := by decide +kernel
theorem d_T_append_15 : decode c_T_append 15 = .ok (.getfield 15, 3) := by decide +kernel
theorem d_T_append_18 : decode c_T_append 18 = .ok (.iload_n 1, 1) := by decide +kernel
theorem d_T_append_19 : decode c_T_append 19 = .ok (.i2b, 1) := by decide +kernel
theorem d_T_append_20 : decode c_T_append 20 = .ok (.bastore, 1) := by decide +kernel
theorem d_T_append_21 : decode c_T_append 21 = .ok (.aload_n 0, 1) := by decide +kernel
theorem d_T_append_22 : decode c_T_append 22 = .ok (.dup, 1) := by decide +kernel
theorem d_T_append_23 : decode c_T_append 23 = .ok (.getfield 15, 3) := by decide +kernel
theorem d_T_append_26 : decode c_T_append 26 = .ok (.iconst 1, 1) := by decide +kernel
theorem d_T_append_27 : decode c_T_append 27 = .ok (.iadd, 1) := by decide +kernel
theorem d_T_append_28 : decode c_T_append 28 = .ok (.putfield 15, 3) := by decide +kernel
theorem d_T_append_31 : decode c_T_append 31 = .ok (.return_, 1) := by decide +kernel
theorem d_T_appendAll_0 : decode c_T_appendAll 0 = .ok (.iload_n 3, 1) := by decide +kernel
theorem d_T_appendAll_1 : decode c_T_appendAll 1 = .ok (.iconst 1, 1) := by decide +kernel
theorem d_T_appendAll_2 : decode c_T_appendAll 2 = .ok (.isub, 1) := by decide +kernel
theorem d_T_appendAll_3 : decode c_T_appendAll 3 = .ok (.istore 4, 2) := by decide +kernel
theorem d_T_appendAll_5 : decode c_T_appendAll 5 = .ok (.iload 4, 2) := by decide +kernel
theorem d_T_appendAll_7 : decode c_T_appendAll 7 = .ok (.ifCond .lt 19, 3) := by decide +kernel
theorem d_T_appendAll_10 : decode c_T_appendAll 10 = .ok (.aload_n 0, 1) := by decide +kernel
theorem d_T_appendAll_11 : decode c_T_appendAll 11 = .ok (.lload_n 1, 1) := by decide +kernel
theorem d_T_appendAll_12 : decode c_T_appendAll 12 = .ok (.iload 4, 2) := by decide +kernel
theorem d_T_appendAll_14 : decode c_T_appendAll 14 = .ok (.invokestatic 19, 3) := by decide +kernel
theorem d_T_appendAll_17 : decode c_T_appendAll 17 = .ok (.invokevirtual 23, 3) := by decide +kernel
theorem d_T_appendAll_20 : decode c_T_appendAll 20 = .ok (.iinc 4 (-1), 3) := by decide +kernel
theorem d_T_appendAll_23 : decode c_T_appendAll 23 = .ok (.goto (-18), 3) := by decide +kernel
theorem d_T_appendAll_26 : decode c_T_appendAll 26 = .ok (.return_, 1) := by decide +kernel
theorem d_T_areCharacters_0 : decode c_T_areCharacters 0 = .ok (.iconst 0, 1) := by decide +kernel
theorem d_T_areCharacters_1 : decode c_T_areCharacters 1 = .ok (.istore_n 3, 1) := by decide +kernel
theorem d_T_areCharacters_2 : decode c_T_areCharacters 2 = .ok (.iload_n 3, 1) := by decide +kernel
theorem d_T_areCharacters_3 : decode c_T_areCharacters 3 = .ok (.iload_n 2, 1) := by decide +kernel
theorem d_T_areCharacters_4 : decode c_T_areCharacters 4 = .ok (.if_icmp .ge 32, 3) := by decide +kernel
theorem d_T_areCharacters_7 : decode c_T_areCharacters 7 = .ok (.lload_n 0, 1) := by decide +kernel
theorem d_T_areCharacters_8 : decode c_T_areCharacters 8 = .ok (.iload_n 3, 1) := by decide +kernel
theorem d_T_areCharacters_9 : decode c_T_areCharacters 9 = .ok (.invokestatic 19, 3) := by decide +kernel
theorem d_T_areCharacters_12 : decode c_T_areCharacters 12 = .ok (.istore 4, 2) := by decide +kernel
theorem d_T_areCharacters_14 : decode c_T_areCharacters 14 = .ok (.iload 4, 2) := by decide +kernel
theorem d_T_areCharacters_16 : decode c_T_areCharacters 16 = .ok (.bipush 32, 2) := by decide +kernel
theorem d_T_areCharacters_18 : decode c_T_areCharacters 18 = .ok (.if_icmp .lt 10, 3) := by decide +kernel
theorem d_T_areCharacters_21 : decode c_T_areCharacters 21 = .ok (.iload 4, 2) := by decide +kernel
theorem d_T_areCharacters_23 : decode c_T_areCharacters 23 = .ok (.bipush 126, 2) := by decide +kernel
theorem d_T_areCharacters_25 : decode c_T_areCharacters 25 = .ok (.if_icmp .le 5, 3) := by decide +kernel
theorem d_T_areCharacters_28 : decode c_T_areCharacters 28 = .ok (.iconst 0, 1) := by decide +kernel
theorem d_T_areCharacters_29 : decode c_T_areCharacters 29 = .ok (.ireturn, 1) := by decide +kernel
theorem d_T_areCharacters_30 : decode c_T_areCharacters 30 = .ok (.iinc 3 1, 3) := by decide +kernel
theorem d_T_areCharacters_33 : decode c_T_areCharacters 33 = .ok (.goto (-31), 3) := by decide +kernel
theorem d_T_areCharacters_36 : decode c_T_areCharacters 36 = .ok (.iconst 1, 1) := by decide +kernel
theorem d_T_areCharacters_37 : decode c_T_areCharacters 37 = .ok (.ireturn, 1) := by decide +kernel
theorem d_T_codeIn_0 : decode c_T_codeIn 0 = .ok (.lload_n 0, 1) := by decide +kernel
theorem d_T_codeIn_1 : decode c_T_codeIn 1 = .ok (.bipush 8, 2) := by decide +kernel
theorem d_T_codeIn_3 : decode c_T_codeIn 3 = .ok (.iload_n 2, 1) := by decide +kernel
theorem d_T_codeIn_4 : decode c_T_codeIn 4 = .ok (.imul, 1) := by decide +kernel
theorem d_T_codeIn_5 : decode c_T_codeIn 5 = .ok (.lushr, 1) := by decide +kernel
theorem d_T_codeIn_6 : decode c_T_codeIn 6 = .ok (.l2i, 1) := by decide +kernel
theorem d_T_codeIn_7 : decode c_T_codeIn 7 = .ok (.sipush 255, 3) := by decide +kernel
theorem d_T_codeIn_10 : decode c_T_codeIn 10 = .ok (.iand, 1) := by decide +kernel
theorem d_T_codeIn_11 : decode c_T_codeIn 11 = .ok (.ireturn, 1) := by decide +kernel
theorem d_T_codeOf_0 : decode c_T_codeOf 0 = .ok (.iload_n 0, 1) := by decide +kernel
theorem d_T_codeOf_1 : decode c_T_codeOf 1 = .ok (.bipush 10, 2) := by decide +kernel
theorem d_T_codeOf_3 : decode c_T_codeOf 3 = .ok (.if_icmp .ge 10, 3) := by decide +kernel
theorem d_T_codeOf_6 : decode c_T_codeOf 6 = .ok (.bipush 48, 2) := by decide +kernel
theorem d_T_codeOf_8 : decode c_T_codeOf 8 = .ok (.iload_n 0, 1) := by decide +kernel
theorem d_T_codeOf_9 : decode c_T_codeOf 9 = .ok (.iadd, 1) := by decide +kernel
theorem d_T_codeOf_10 : decode c_T_codeOf 10 = .ok (.goto 10, 3) := by decide +kernel
theorem d_T_codeOf_13 : decode c_T_codeOf 13 = .ok (.bipush 97, 2) := by decide +kernel
theorem d_T_codeOf_15 : decode c_T_codeOf 15 = .ok (.iload_n 0, 1) := by decide +kernel
theorem d_T_codeOf_16 : decode c_T_codeOf 16 = .ok (.iadd, 1) := by decide +kernel
theorem d_T_codeOf_17 : decode c_T_codeOf 17 = .ok (.bipush 10, 2) := by decide +kernel
theorem d_T_codeOf_19 : decode c_T_codeOf 19 = .ok (.isub, 1) := by decide +kernel
theorem d_T_codeOf_20 : decode c_T_codeOf 20 = .ok (.ireturn, 1) := by decide +kernel
theorem d_T_digitOf_0 : decode c_T_digitOf 0 = .ok (.iload_n 0, 1) := by decide +kernel
theorem d_T_digitOf_1 : decode c_T_digitOf 1 = .ok (.bipush 48, 2) := by decide +kernel
theorem d_T_digitOf_3 : decode c_T_digitOf 3 = .ok (.if_icmp .lt 14, 3) := by decide +kernel
theorem d_T_digitOf_6 : decode c_T_digitOf 6 = .ok (.iload_n 0, 1) := by decide +kernel
theorem d_T_digitOf_7 : decode c_T_digitOf 7 = .ok (.bipush 57, 2) := by decide +kernel
theorem d_T_digitOf_9 : decode c_T_digitOf 9 = .ok (.if_icmp .gt 8, 3) := by decide +kernel
theorem d_T_digitOf_12 : decode c_T_digitOf 12 = .ok (.iload_n 0, 1) := by decide +kernel
theorem d_T_digitOf_13 : decode c_T_digitOf 13 = .ok (.bipush 48, 2) := by decide +kernel
theorem d_T_digitOf_15 : decode c_T_digitOf 15 = .ok (.isub, 1) := by decide +kernel
theorem d_T_digitOf_16 : decode c_T_digitOf 16 = .ok (.ireturn, 1) := by decide +kernel
theorem d_T_digitOf_17 : decode c_T_digitOf 17 = .ok (.iload_n 0, 1) := by decide +kernel
theorem d_T_digitOf_18 : decode c_T_digitOf 18 = .ok (.bipush 97, 2) := by decide +kernel
theorem d_T_digitOf_20 : decode c_T_digitOf 20 = .ok (.if_icmp .lt 17, 3) := by decide +kernel
theorem d_T_digitOf_23 : decode c_T_digitOf 23 = .ok (.iload_n 0, 1) := by decide +kernel
theorem d_T_digitOf_24 : decode c_T_digitOf 24 = .ok (.bipush 122, 2) := by decide +kernel
theorem d_T_digitOf_26 : decode c_T_digitOf 26 = .ok (.if_icmp .gt 11, 3) := by decide +kernel
theorem d_T_digitOf_29 : decode c_T_digitOf 29 = .ok (.iload_n 0, 1) := by decide +kernel
theorem d_T_digitOf_30 : decode c_T_digitOf 30 = .ok (.bipush 97, 2) := by decide +kernel
theorem d_T_digitOf_32 : decode c_T_digitOf 32 = .ok (.isub, 1) := by decide +kernel
theorem d_T_digitOf_33 : decode c_T_digitOf 33 = .ok (.bipush 10, 2) := by decide +kernel
theorem d_T_digitOf_35 : decode c_T_digitOf 35 = .ok (.iadd, 1) := by decide +kernel
theorem d_T_digitOf_36 : decode c_T_digitOf 36 = .ok (.ireturn, 1) := by decide +kernel
theorem d_T_digitOf_37 : decode c_T_digitOf 37 = .ok (.iload_n 0, 1) := by decide +kernel
theorem d_T_digitOf_38 : decode c_T_digitOf 38 = .ok (.bipush 65, 2) := by decide +kernel
theorem d_T_digitOf_40 : decode c_T_digitOf 40 = .ok (.if_icmp .lt 17, 3) := by decide +kernel
theorem d_T_digitOf_43 : decode c_T_digitOf 43 = .ok (.iload_n 0, 1) := by decide +kernel
theorem d_T_digitOf_44 : decode c_T_digitOf 44 = .ok (.bipush 90, 2) := by decide +kernel
theorem d_T_digitOf_46 : decode c_T_digitOf 46 = .ok (.if_icmp .gt 11, 3) := by decide +kernel
theorem d_T_digitOf_49 : decode c_T_digitOf 49 = .ok (.iload_n 0, 1) := by decide +kernel
theorem d_T_digitOf_50 : decode c_T_digitOf 50 = .ok (.bipush 65, 2) := by decide +kernel
theorem d_T_digitOf_52 : decode c_T_digitOf 52 = .ok (.isub, 1) := by decide +kernel
theorem d_T_digitOf_53 : decode c_T_digitOf 53 = .ok (.bipush 10, 2) := by decide +kernel
theorem d_T_digitOf_55 : decode c_T_digitOf 55 = .ok (.iadd, 1) := by decide +kernel
theorem d_T_digitOf_56 : decode c_T_digitOf 56 = .ok (.ireturn, 1) := by decide +kernel
theorem d_T_digitOf_57 : decode c_T_digitOf 57 = .ok (.iconst (-1), 1) := by decide +kernel
theorem d_T_digitOf_58 : decode c_T_digitOf 58 = .ok (.ireturn, 1) := by decide +kernel
theorem d_T_isNumeral_0 : decode c_T_isNumeral 0 = .ok (.aload_n 0, 1) := by decide +kernel
theorem d_T_isNumeral_1 : decode c_T_isNumeral 1 = .ok (.invokevirtual 27, 3) := by decide +kernel
theorem d_T_isNumeral_4 : decode c_T_isNumeral 4 = .ok (.istore_n 2, 1) := by decide +kernel
theorem d_T_isNumeral_5 : decode c_T_isNumeral 5 = .ok (.iload_n 2, 1) := by decide +kernel
theorem d_T_isNumeral_6 : decode c_T_isNumeral 6 = .ok (.istore_n 3, 1) := by decide +kernel
theorem d_T_isNumeral_7 : decode c_T_isNumeral 7 = .ok (.iload_n 3, 1) := by decide +kernel
theorem d_T_isNumeral_8 : decode c_T_isNumeral 8 = .ok (.aload_n 0, 1) := by decide +kernel
theorem d_T_isNumeral_9 : decode c_T_isNumeral 9 = .ok (.getfield 15, 3) := by decide +kernel
theorem d_T_isNumeral_12 : decode c_T_isNumeral 12 = .ok (.if_icmp .ge 34, 3) := by decide +kernel
theorem d_T_isNumeral_15 : decode c_T_isNumeral 15 = .ok (.aload_n 0, 1) := by decide +kernel
theorem d_T_isNumeral_16 : decode c_T_isNumeral 16 = .ok (.getfield 11, 3) := by decide +kernel
theorem d_T_isNumeral_19 : decode c_T_isNumeral 19 = .ok (.iload_n 3, 1) := by decide +kernel
theorem d_T_isNumeral_20 : decode c_T_isNumeral 20 = .ok (.baload, 1) := by decide +kernel
theorem d_T_isNumeral_21 : decode c_T_isNumeral 21 = .ok (.invokestatic 31, 3) := by decide +kernel
theorem d_T_isNumeral_24 : decode c_T_isNumeral 24 = .ok (.istore 4, 2) := by decide +kernel
theorem d_T_isNumeral_26 : decode c_T_isNumeral 26 = .ok (.iload 4, 2) := by decide +kernel
theorem d_T_isNumeral_28 : decode c_T_isNumeral 28 = .ok (.iconst (-1), 1) := by decide +kernel
theorem d_T_isNumeral_29 : decode c_T_isNumeral 29 = .ok (.if_icmp .eq 9, 3) := by decide +kernel
theorem d_T_isNumeral_32 : decode c_T_isNumeral 32 = .ok (.iload 4, 2) := by decide +kernel
theorem d_T_isNumeral_34 : decode c_T_isNumeral 34 = .ok (.iload_n 1, 1) := by decide +kernel
theorem d_T_isNumeral_35 : decode c_T_isNumeral 35 = .ok (.if_icmp .lt 5, 3) := by decide +kernel
theorem d_T_isNumeral_38 : decode c_T_isNumeral 38 = .ok (.iconst 0, 1) := by decide +kernel
theorem d_T_isNumeral_39 : decode c_T_isNumeral 39 = .ok (.ireturn, 1) := by decide +kernel
theorem d_T_isNumeral_40 : decode c_T_isNumeral 40 = .ok (.iinc 3 1, 3) := by decide +kernel
theorem d_T_isNumeral_43 : decode c_T_isNumeral 43 = .ok (.goto (-36), 3) := by decide +kernel
theorem d_T_isNumeral_46 : decode c_T_isNumeral 46 = .ok (.aload_n 0, 1) := by decide +kernel
theorem d_T_isNumeral_47 : decode c_T_isNumeral 47 = .ok (.getfield 15, 3) := by decide +kernel
theorem d_T_isNumeral_50 : decode c_T_isNumeral 50 = .ok (.iload_n 2, 1) := by decide +kernel
theorem d_T_isNumeral_51 : decode c_T_isNumeral 51 = .ok (.if_icmp .le 7, 3) := by decide +kernel
theorem d_T_isNumeral_54 : decode c_T_isNumeral 54 = .ok (.iconst 1, 1) := by decide +kernel
theorem d_T_isNumeral_55 : decode c_T_isNumeral 55 = .ok (.goto 4, 3) := by decide +kernel
theorem d_T_isNumeral_58 : decode c_T_isNumeral 58 = .ok (.iconst 0, 1) := by decide +kernel
theorem d_T_isNumeral_59 : decode c_T_isNumeral 59 = .ok (.ireturn, 1) := by decide +kernel
theorem d_T_readNumeral_0 : decode c_T_readNumeral 0 = .ok (.aload_n 1, 1) := by decide +kernel
theorem d_T_readNumeral_1 : decode c_T_readNumeral 1 = .ok (.lconst 0, 1) := by decide +kernel
theorem d_T_readNumeral_2 : decode c_T_readNumeral 2 = .ok (.invokevirtual 35, 3) := by decide +kernel
theorem d_T_readNumeral_5 : decode c_T_readNumeral 5 = .ok (.aload_n 0, 1) := by decide +kernel
theorem d_T_readNumeral_6 : decode c_T_readNumeral 6 = .ok (.invokevirtual 27, 3) := by decide +kernel
theorem d_T_readNumeral_9 : decode c_T_readNumeral 9 = .ok (.istore_n 3, 1) := by decide +kernel
theorem d_T_readNumeral_10 : decode c_T_readNumeral 10 = .ok (.iload_n 3, 1) := by decide +kernel
theorem d_T_readNumeral_11 : decode c_T_readNumeral 11 = .ok (.aload_n 0, 1) := by decide +kernel
theorem d_T_readNumeral_12 : decode c_T_readNumeral 12 = .ok (.getfield 15, 3) := by decide +kernel
theorem d_T_readNumeral_15 : decode c_T_readNumeral 15 = .ok (.if_icmp .ge 39, 3) := by decide +kernel
theorem d_T_readNumeral_18 : decode c_T_readNumeral 18 = .ok (.aload_n 1, 1) := by decide +kernel
theorem d_T_readNumeral_19 : decode c_T_readNumeral 19 = .ok (.getfield 41, 3) := by decide +kernel
theorem d_T_readNumeral_22 : decode c_T_readNumeral 22 = .ok (.invokevirtual 45, 3) := by decide +kernel
theorem d_T_readNumeral_25 : decode c_T_readNumeral 25 = .ok (.sipush 1024, 3) := by decide +kernel
theorem d_T_readNumeral_28 : decode c_T_readNumeral 28 = .ok (.if_icmp .gt 26, 3) := by decide +kernel
theorem d_T_readNumeral_31 : decode c_T_readNumeral 31 = .ok (.aload_n 1, 1) := by decide +kernel
theorem d_T_readNumeral_32 : decode c_T_readNumeral 32 = .ok (.getfield 41, 3) := by decide +kernel
theorem d_T_readNumeral_35 : decode c_T_readNumeral 35 = .ok (.iload_n 2, 1) := by decide +kernel
theorem d_T_readNumeral_36 : decode c_T_readNumeral 36 = .ok (.aload_n 0, 1) := by decide +kernel
theorem d_T_readNumeral_37 : decode c_T_readNumeral 37 = .ok (.getfield 11, 3) := by decide +kernel
theorem d_T_readNumeral_40 : decode c_T_readNumeral 40 = .ok (.iload_n 3, 1) := by decide +kernel
theorem d_T_readNumeral_41 : decode c_T_readNumeral 41 = .ok (.baload, 1) := by decide +kernel
theorem d_T_readNumeral_42 : decode c_T_readNumeral 42 = .ok (.invokestatic 31, 3) := by decide +kernel
theorem d_T_readNumeral_45 : decode c_T_readNumeral 45 = .ok (.invokevirtual 50, 3) := by decide +kernel
theorem d_T_readNumeral_48 : decode c_T_readNumeral 48 = .ok (.iinc 3 1, 3) := by decide +kernel
theorem d_T_readNumeral_51 : decode c_T_readNumeral 51 = .ok (.goto (-41), 3) := by decide +kernel
theorem d_T_readNumeral_54 : decode c_T_readNumeral 54 = .ok (.aload_n 1, 1) := by decide +kernel
theorem d_T_readNumeral_55 : decode c_T_readNumeral 55 = .ok (.aload_n 0, 1) := by decide +kernel
theorem d_T_readNumeral_56 : decode c_T_readNumeral 56 = .ok (.invokevirtual 27, 3) := by decide +kernel
theorem d_T_readNumeral_59 : decode c_T_readNumeral 59 = .ok (.iconst 1, 1) := by decide +kernel
theorem d_T_readNumeral_60 : decode c_T_readNumeral 60 = .ok (.if_icmp .ne 17, 3) := by decide +kernel
theorem d_T_readNumeral_63 : decode c_T_readNumeral 63 = .ok (.aload_n 1, 1) := by decide +kernel
theorem d_T_readNumeral_64 : decode c_T_readNumeral 64 = .ok (.getfield 41, 3) := by decide +kernel
theorem d_T_readNumeral_67 : decode c_T_readNumeral 67 = .ok (.invokevirtual 54, 3) := by decide +kernel
theorem d_T_readNumeral_70 : decode c_T_readNumeral 70 = .ok (.ifCond .ne 7, 3) := by decide +kernel
theorem d_T_readNumeral_73 : decode c_T_readNumeral 73 = .ok (.iconst 1, 1) := by decide +kernel
theorem d_T_readNumeral_74 : decode c_T_readNumeral 74 = .ok (.goto 4, 3) := by decide +kernel
theorem d_T_readNumeral_77 : decode c_T_readNumeral 77 = .ok (.iconst 0, 1) := by decide +kernel
theorem d_T_readNumeral_78 : decode c_T_readNumeral 78 = .ok (.putfield 58, 3) := by decide +kernel
theorem d_T_readNumeral_81 : decode c_T_readNumeral 81 = .ok (.return_, 1) := by decide +kernel
theorem d_T_reverse_0 : decode c_T_reverse 0 = .ok (.iconst 0, 1) := by decide +kernel
theorem d_T_reverse_1 : decode c_T_reverse 1 = .ok (.istore_n 1, 1) := by decide +kernel
theorem d_T_reverse_2 : decode c_T_reverse 2 = .ok (.aload_n 0, 1) := by decide +kernel
theorem d_T_reverse_3 : decode c_T_reverse 3 = .ok (.getfield 15, 3) := by decide +kernel
theorem d_T_reverse_6 : decode c_T_reverse 6 = .ok (.iconst 1, 1) := by decide +kernel
theorem d_T_reverse_7 : decode c_T_reverse 7 = .ok (.isub, 1) := by decide +kernel
theorem d_T_reverse_8 : decode c_T_reverse 8 = .ok (.istore_n 2, 1) := by decide +kernel
theorem d_T_reverse_9 : decode c_T_reverse 9 = .ok (.iload_n 1, 1) := by decide +kernel
theorem d_T_reverse_10 : decode c_T_reverse 10 = .ok (.iload_n 2, 1) := by decide +kernel
theorem d_T_reverse_11 : decode c_T_reverse 11 = .ok (.if_icmp .ge 38, 3) := by decide +kernel
theorem d_T_reverse_14 : decode c_T_reverse 14 = .ok (.aload_n 0, 1) := by decide +kernel
theorem d_T_reverse_15 : decode c_T_reverse 15 = .ok (.getfield 11, 3) := by decide +kernel
theorem d_T_reverse_18 : decode c_T_reverse 18 = .ok (.iload_n 1, 1) := by decide +kernel
theorem d_T_reverse_19 : decode c_T_reverse 19 = .ok (.baload, 1) := by decide +kernel
theorem d_T_reverse_20 : decode c_T_reverse 20 = .ok (.istore_n 3, 1) := by decide +kernel
theorem d_T_reverse_21 : decode c_T_reverse 21 = .ok (.aload_n 0, 1) := by decide +kernel
theorem d_T_reverse_22 : decode c_T_reverse 22 = .ok (.getfield 11, 3) := by decide +kernel
theorem d_T_reverse_25 : decode c_T_reverse 25 = .ok (.iload_n 1, 1) := by decide +kernel
theorem d_T_reverse_26 : decode c_T_reverse 26 = .ok (.aload_n 0, 1) := by decide +kernel
theorem d_T_reverse_27 : decode c_T_reverse 27 = .ok (.getfield 11, 3) := by decide +kernel
theorem d_T_reverse_30 : decode c_T_reverse 30 = .ok (.iload_n 2, 1) := by decide +kernel
theorem d_T_reverse_31 : decode c_T_reverse 31 = .ok (.baload, 1) := by decide +kernel
theorem d_T_reverse_32 : decode c_T_reverse 32 = .ok (.bastore, 1) := by decide +kernel
theorem d_T_reverse_33 : decode c_T_reverse 33 = .ok (.aload_n 0, 1) := by decide +kernel
theorem d_T_reverse_34 : decode c_T_reverse 34 = .ok (.getfield 11, 3) := by decide +kernel
theorem d_T_reverse_37 : decode c_T_reverse 37 = .ok (.iload_n 2, 1) := by decide +kernel
theorem d_T_reverse_38 : decode c_T_reverse 38 = .ok (.iload_n 3, 1) := by decide +kernel
theorem d_T_reverse_39 : decode c_T_reverse 39 = .ok (.bastore, 1) := by decide +kernel
theorem d_T_reverse_40 : decode c_T_reverse 40 = .ok (.iinc 1 1, 3) := by decide +kernel
theorem d_T_reverse_43 : decode c_T_reverse 43 = .ok (.iinc 2 (-1), 3) := by decide +kernel
theorem d_T_reverse_46 : decode c_T_reverse 46 = .ok (.goto (-37), 3) := by decide +kernel
theorem d_T_reverse_49 : decode c_T_reverse 49 = .ok (.return_, 1) := by decide +kernel
theorem d_T_signs_0 : decode c_T_signs 0 = .ok (.aload_n 0, 1) := by decide +kernel
theorem d_T_signs_1 : decode c_T_signs 1 = .ok (.getfield 15, 3) := by decide +kernel
theorem d_T_signs_4 : decode c_T_signs 4 = .ok (.ifCond .le 18, 3) := by decide +kernel
theorem d_T_signs_7 : decode c_T_signs 7 = .ok (.aload_n 0, 1) := by decide +kernel
theorem d_T_signs_8 : decode c_T_signs 8 = .ok (.getfield 11, 3) := by decide +kernel
theorem d_T_signs_11 : decode c_T_signs 11 = .ok (.iconst 0, 1) := by decide +kernel
theorem d_T_signs_12 : decode c_T_signs 12 = .ok (.baload, 1) := by decide +kernel
theorem d_T_signs_13 : decode c_T_signs 13 = .ok (.bipush 45, 2) := by decide +kernel
theorem d_T_signs_15 : decode c_T_signs 15 = .ok (.if_icmp .ne 7, 3) := by decide +kernel
theorem d_T_signs_18 : decode c_T_signs 18 = .ok (.iconst 1, 1) := by decide +kernel
theorem d_T_signs_19 : decode c_T_signs 19 = .ok (.goto 4, 3) := by decide +kernel
theorem d_T_signs_22 : decode c_T_signs 22 = .ok (.iconst 0, 1) := by decide +kernel
theorem d_T_signs_23 : decode c_T_signs 23 = .ok (.ireturn, 1) := by decide +kernel
theorem d_T_writeNumeral_0 : decode c_T_writeNumeral 0 = .ok (.aload_n 0, 1) := by decide +kernel
theorem d_T_writeNumeral_1 : decode c_T_writeNumeral 1 = .ok (.iconst 0, 1) := by decide +kernel
theorem d_T_writeNumeral_2 : decode c_T_writeNumeral 2 = .ok (.putfield 15, 3) := by decide +kernel
theorem d_T_writeNumeral_5 : decode c_T_writeNumeral 5 = .ok (.iconst 1, 1) := by decide +kernel
theorem d_T_writeNumeral_6 : decode c_T_writeNumeral 6 = .ok (.istore_n 3, 1) := by decide +kernel
theorem d_T_writeNumeral_7 : decode c_T_writeNumeral 7 = .ok (.iconst 0, 1) := by decide +kernel
theorem d_T_writeNumeral_8 : decode c_T_writeNumeral 8 = .ok (.istore 4, 2) := by decide +kernel
theorem d_T_writeNumeral_10 : decode c_T_writeNumeral 10 = .ok (.iload 4, 2) := by decide +kernel
theorem d_T_writeNumeral_12 : decode c_T_writeNumeral 12 = .ok (.sipush 1200, 3) := by decide +kernel
theorem d_T_writeNumeral_15 : decode c_T_writeNumeral 15 = .ok (.if_icmp .ge 44, 3) := by decide +kernel
theorem d_T_writeNumeral_18 : decode c_T_writeNumeral 18 = .ok (.iload_n 3, 1) := by decide +kernel
theorem d_T_writeNumeral_19 : decode c_T_writeNumeral 19 = .ok (.ifCond .eq 40, 3) := by decide +kernel
theorem d_T_writeNumeral_22 : decode c_T_writeNumeral 22 = .ok (.aload_n 0, 1) := by decide +kernel
theorem d_T_writeNumeral_23 : decode c_T_writeNumeral 23 = .ok (.aload_n 1, 1) := by decide +kernel
theorem d_T_writeNumeral_24 : decode c_T_writeNumeral 24 = .ok (.getfield 41, 3) := by decide +kernel
theorem d_T_writeNumeral_27 : decode c_T_writeNumeral 27 = .ok (.iload_n 2, 1) := by decide +kernel
theorem d_T_writeNumeral_28 : decode c_T_writeNumeral 28 = .ok (.invokevirtual 62, 3) := by decide +kernel
theorem d_T_writeNumeral_31 : decode c_T_writeNumeral 31 = .ok (.invokestatic 65, 3) := by decide +kernel
theorem d_T_writeNumeral_34 : decode c_T_writeNumeral 34 = .ok (.invokevirtual 23, 3) := by decide +kernel
theorem d_T_writeNumeral_37 : decode c_T_writeNumeral 37 = .ok (.aload_n 1, 1) := by decide +kernel
theorem d_T_writeNumeral_38 : decode c_T_writeNumeral 38 = .ok (.getfield 41, 3) := by decide +kernel
theorem d_T_writeNumeral_41 : decode c_T_writeNumeral 41 = .ok (.invokevirtual 54, 3) := by decide +kernel
theorem d_T_writeNumeral_44 : decode c_T_writeNumeral 44 = .ok (.ifCond .ne 7, 3) := by decide +kernel
theorem d_T_writeNumeral_47 : decode c_T_writeNumeral 47 = .ok (.iconst 1, 1) := by decide +kernel
theorem d_T_writeNumeral_48 : decode c_T_writeNumeral 48 = .ok (.goto 4, 3) := by decide +kernel
theorem d_T_writeNumeral_51 : decode c_T_writeNumeral 51 = .ok (.iconst 0, 1) := by decide +kernel
theorem d_T_writeNumeral_52 : decode c_T_writeNumeral 52 = .ok (.istore_n 3, 1) := by decide +kernel
theorem d_T_writeNumeral_53 : decode c_T_writeNumeral 53 = .ok (.iinc 4 1, 3) := by decide +kernel
theorem d_T_writeNumeral_56 : decode c_T_writeNumeral 56 = .ok (.goto (-46), 3) := by decide +kernel
theorem d_T_writeNumeral_59 : decode c_T_writeNumeral 59 = .ok (.aload_n 1, 1) := by decide +kernel
theorem d_T_writeNumeral_60 : decode c_T_writeNumeral 60 = .ok (.getfield 58, 3) := by decide +kernel
theorem d_T_writeNumeral_63 : decode c_T_writeNumeral 63 = .ok (.ifCond .eq 9, 3) := by decide +kernel
theorem d_T_writeNumeral_66 : decode c_T_writeNumeral 66 = .ok (.aload_n 0, 1) := by decide +kernel
theorem d_T_writeNumeral_67 : decode c_T_writeNumeral 67 = .ok (.bipush 45, 2) := by decide +kernel
theorem d_T_writeNumeral_69 : decode c_T_writeNumeral 69 = .ok (.invokevirtual 23, 3) := by decide +kernel
theorem d_T_writeNumeral_72 : decode c_T_writeNumeral 72 = .ok (.aload_n 0, 1) := by decide +kernel
theorem d_T_writeNumeral_73 : decode c_T_writeNumeral 73 = .ok (.invokevirtual 68, 3) := by decide +kernel
theorem d_T_writeNumeral_76 : decode c_T_writeNumeral 76 = .ok (.return_, 1) := by decide +kernel
theorem d_W_isOddAfter_0 : decode c_W_isOddAfter 0 = .ok (.aload_n 0, 1) := by decide +kernel
theorem d_W_isOddAfter_1 : decode c_W_isOddAfter 1 = .ok (.getfield 10, 3) := by decide +kernel
theorem d_W_isOddAfter_4 : decode c_W_isOddAfter 4 = .ok (.iload_n 1, 1) := by decide +kernel
theorem d_W_isOddAfter_5 : decode c_W_isOddAfter 5 = .ok (.invokevirtual 60, 3) := by decide +kernel
theorem d_W_isOddAfter_8 : decode c_W_isOddAfter 8 = .ok (.aload_n 0, 1) := by decide +kernel
theorem d_W_isOddAfter_9 : decode c_W_isOddAfter 9 = .ok (.getfield 16, 3) := by decide +kernel
theorem d_W_isOddAfter_12 : decode c_W_isOddAfter 12 = .ok (.ifCond .eq 18, 3) := by decide +kernel
theorem d_W_isOddAfter_15 : decode c_W_isOddAfter 15 = .ok (.aload_n 0, 1) := by decide +kernel
theorem d_W_isOddAfter_16 : decode c_W_isOddAfter 16 = .ok (.getfield 10, 3) := by decide +kernel
theorem d_W_isOddAfter_19 : decode c_W_isOddAfter 19 = .ok (.iload_n 1, 1) := by decide +kernel
theorem d_W_isOddAfter_20 : decode c_W_isOddAfter 20 = .ok (.invokevirtual 50, 3) := by decide +kernel
theorem d_W_isOddAfter_23 : decode c_W_isOddAfter 23 = .ok (.ifCond .eq 7, 3) := by decide +kernel
theorem d_W_isOddAfter_26 : decode c_W_isOddAfter 26 = .ok (.iconst 1, 1) := by decide +kernel
theorem d_W_isOddAfter_27 : decode c_W_isOddAfter 27 = .ok (.goto 4, 3) := by decide +kernel
theorem d_W_isOddAfter_30 : decode c_W_isOddAfter 30 = .ok (.iconst 0, 1) := by decide +kernel
theorem d_W_isOddAfter_31 : decode c_W_isOddAfter 31 = .ok (.if_icmp .eq 7, 3) := by decide +kernel
theorem d_W_isOddAfter_34 : decode c_W_isOddAfter 34 = .ok (.iconst 1, 1) := by decide +kernel
theorem d_W_isOddAfter_35 : decode c_W_isOddAfter 35 = .ok (.goto 4, 3) := by decide +kernel
theorem d_W_isOddAfter_38 : decode c_W_isOddAfter 38 = .ok (.iconst 0, 1) := by decide +kernel
theorem d_W_isOddAfter_39 : decode c_W_isOddAfter 39 = .ok (.ireturn, 1) := by decide +kernel
theorem d_W_order_0 : decode c_W_order 0 = .ok (.aload_n 0, 1) := by decide +kernel
theorem d_W_order_1 : decode c_W_order 1 = .ok (.getfield 16, 3) := by decide +kernel
theorem d_W_order_4 : decode c_W_order 4 = .ok (.aload_n 1, 1) := by decide +kernel
theorem d_W_order_5 : decode c_W_order 5 = .ok (.getfield 16, 3) := by decide +kernel
theorem d_W_order_8 : decode c_W_order 8 = .ok (.if_icmp .eq 16, 3) := by decide +kernel
theorem d_W_order_11 : decode c_W_order 11 = .ok (.aload_n 0, 1) := by decide +kernel
theorem d_W_order_12 : decode c_W_order 12 = .ok (.getfield 16, 3) := by decide +kernel
theorem d_W_order_15 : decode c_W_order 15 = .ok (.ifCond .eq 7, 3) := by decide +kernel
theorem d_W_order_18 : decode c_W_order 18 = .ok (.iconst (-1), 1) := by decide +kernel
theorem d_W_order_19 : decode c_W_order 19 = .ok (.goto 4, 3) := by decide +kernel
theorem d_W_order_22 : decode c_W_order 22 = .ok (.iconst 1, 1) := by decide +kernel
theorem d_W_order_23 : decode c_W_order 23 = .ok (.ireturn, 1) := by decide +kernel
theorem d_W_order_24 : decode c_W_order 24 = .ok (.aload_n 0, 1) := by decide +kernel
theorem d_W_order_25 : decode c_W_order 25 = .ok (.getfield 16, 3) := by decide +kernel
theorem d_W_order_28 : decode c_W_order 28 = .ok (.ifCond .eq 17, 3) := by decide +kernel
theorem d_W_order_31 : decode c_W_order 31 = .ok (.aload_n 1, 1) := by decide +kernel
theorem d_W_order_32 : decode c_W_order 32 = .ok (.getfield 10, 3) := by decide +kernel
theorem d_W_order_35 : decode c_W_order 35 = .ok (.aload_n 0, 1) := by decide +kernel
theorem d_W_order_36 : decode c_W_order 36 = .ok (.getfield 10, 3) := by decide +kernel
theorem d_W_order_39 : decode c_W_order 39 = .ok (.invokevirtual 36, 3) := by decide +kernel
theorem d_W_order_42 : decode c_W_order 42 = .ok (.goto 14, 3) := by decide +kernel
theorem d_W_order_45 : decode c_W_order 45 = .ok (.aload_n 0, 1) := by decide +kernel
theorem d_W_order_46 : decode c_W_order 46 = .ok (.getfield 10, 3) := by decide +kernel
theorem d_W_order_49 : decode c_W_order 49 = .ok (.aload_n 1, 1) := by decide +kernel
theorem d_W_order_50 : decode c_W_order 50 = .ok (.getfield 10, 3) := by decide +kernel
theorem d_W_order_53 : decode c_W_order 53 = .ok (.invokevirtual 36, 3) := by decide +kernel
theorem d_W_order_56 : decode c_W_order 56 = .ok (.ireturn, 1) := by decide +kernel
theorem d_W_take_0 : decode c_W_take 0 = .ok (.aload_n 0, 1) := by decide +kernel
theorem d_W_take_1 : decode c_W_take 1 = .ok (.getfield 10, 3) := by decide +kernel
theorem d_W_take_4 : decode c_W_take 4 = .ok (.aload_n 1, 1) := by decide +kernel
theorem d_W_take_5 : decode c_W_take 5 = .ok (.invokevirtual 20, 3) := by decide +kernel
theorem d_W_take_8 : decode c_W_take 8 = .ok (.aload_n 0, 1) := by decide +kernel
theorem d_W_take_9 : decode c_W_take 9 = .ok (.iload_n 2, 1) := by decide +kernel
theorem d_W_take_10 : decode c_W_take 10 = .ok (.ifCond .eq 17, 3) := by decide +kernel
theorem d_W_take_13 : decode c_W_take 13 = .ok (.aload_n 0, 1) := by decide +kernel
theorem d_W_take_14 : decode c_W_take 14 = .ok (.getfield 10, 3) := by decide +kernel
theorem d_W_take_17 : decode c_W_take 17 = .ok (.invokevirtual 24, 3) := by decide +kernel
theorem d_W_take_20 : decode c_W_take 20 = .ok (.ifCond .ne 7, 3) := by decide +kernel
theorem d_W_take_23 : decode c_W_take 23 = .ok (.iconst 1, 1) := by decide +kernel
theorem d_W_take_24 : decode c_W_take 24 = .ok (.goto 4, 3) := by decide +kernel
theorem d_W_take_27 : decode c_W_take 27 = .ok (.iconst 0, 1) := by decide +kernel
theorem d_W_take_28 : decode c_W_take 28 = .ok (.putfield 16, 3) := by decide +kernel
theorem d_W_take_31 : decode c_W_take 31 = .ok (.return_, 1) := by decide +kernel
theorem d_W_takeLong_0 : decode c_W_takeLong 0 = .ok (.aload_n 0, 1) := by decide +kernel
theorem d_W_takeLong_1 : decode c_W_takeLong 1 = .ok (.getfield 10, 3) := by decide +kernel
theorem d_W_takeLong_4 : decode c_W_takeLong 4 = .ok (.lload_n 1, 1) := by decide +kernel
theorem d_W_takeLong_5 : decode c_W_takeLong 5 = .ok (.lconst 0, 1) := by decide +kernel
theorem d_W_takeLong_6 : decode c_W_takeLong 6 = .ok (.lcmp, 1) := by decide +kernel
theorem d_W_takeLong_7 : decode c_W_takeLong 7 = .ok (.ifCond .ge 8, 3) := by decide +kernel
theorem d_W_takeLong_10 : decode c_W_takeLong 10 = .ok (.lload_n 1, 1) := by decide +kernel
theorem d_W_takeLong_11 : decode c_W_takeLong 11 = .ok (.lneg, 1) := by decide +kernel
theorem d_W_takeLong_12 : decode c_W_takeLong 12 = .ok (.goto 4, 3) := by decide +kernel
theorem d_W_takeLong_15 : decode c_W_takeLong 15 = .ok (.lload_n 1, 1) := by decide +kernel
theorem d_W_takeLong_16 : decode c_W_takeLong 16 = .ok (.invokevirtual 28, 3) := by decide +kernel
theorem d_W_takeLong_19 : decode c_W_takeLong 19 = .ok (.aload_n 0, 1) := by decide +kernel
theorem d_W_takeLong_20 : decode c_W_takeLong 20 = .ok (.lload_n 1, 1) := by decide +kernel
theorem d_W_takeLong_21 : decode c_W_takeLong 21 = .ok (.lconst 0, 1) := by decide +kernel
theorem d_W_takeLong_22 : decode c_W_takeLong 22 = .ok (.lcmp, 1) := by decide +kernel
theorem d_W_takeLong_23 : decode c_W_takeLong 23 = .ok (.ifCond .ge 7, 3) := by decide +kernel
theorem d_W_takeLong_26 : decode c_W_takeLong 26 = .ok (.iconst 1, 1) := by decide +kernel
theorem d_W_takeLong_27 : decode c_W_takeLong 27 = .ok (.goto 4, 3) := by decide +kernel
theorem d_W_takeLong_30 : decode c_W_takeLong 30 = .ok (.iconst 0, 1) := by decide +kernel
theorem d_W_takeLong_31 : decode c_W_takeLong 31 = .ok (.putfield 16, 3) := by decide +kernel
theorem d_W_takeLong_34 : decode c_W_takeLong 34 = .ok (.return_, 1) := by decide +kernel
theorem d_W_takeLowered_0 : decode c_W_takeLowered 0 = .ok (.aload_n 1, 1) := by decide +kernel
theorem d_W_takeLowered_1 : decode c_W_takeLowered 1 = .ok (.getfield 16, 3) := by decide +kernel
theorem d_W_takeLowered_4 : decode c_W_takeLowered 4 = .ok (.ifCond .eq 18, 3) := by decide +kernel
theorem d_W_takeLowered_7 : decode c_W_takeLowered 7 = .ok (.aload_n 1, 1) := by decide +kernel
theorem d_W_takeLowered_8 : decode c_W_takeLowered 8 = .ok (.getfield 10, 3) := by decide +kernel
theorem d_W_takeLowered_11 : decode c_W_takeLowered 11 = .ok (.iload_n 2, 1) := by decide +kernel
theorem d_W_takeLowered_12 : decode c_W_takeLowered 12 = .ok (.invokevirtual 50, 3) := by decide +kernel
theorem d_W_takeLowered_15 : decode c_W_takeLowered 15 = .ok (.ifCond .eq 7, 3) := by decide +kernel
theorem d_W_takeLowered_18 : decode c_W_takeLowered 18 = .ok (.iconst 1, 1) := by decide +kernel
theorem d_W_takeLowered_19 : decode c_W_takeLowered 19 = .ok (.goto 4, 3) := by decide +kernel
theorem d_W_takeLowered_22 : decode c_W_takeLowered 22 = .ok (.iconst 0, 1) := by decide +kernel
theorem d_W_takeLowered_23 : decode c_W_takeLowered 23 = .ok (.istore_n 3, 1) := by decide +kernel
theorem d_W_takeLowered_24 : decode c_W_takeLowered 24 = .ok (.aload_n 0, 1) := by decide +kernel
theorem d_W_takeLowered_25 : decode c_W_takeLowered 25 = .ok (.getfield 10, 3) := by decide +kernel
theorem d_W_takeLowered_28 : decode c_W_takeLowered 28 = .ok (.aload_n 1, 1) := by decide +kernel
theorem d_W_takeLowered_29 : decode c_W_takeLowered 29 = .ok (.getfield 10, 3) := by decide +kernel
theorem d_W_takeLowered_32 : decode c_W_takeLowered 32 = .ok (.iload_n 2, 1) := by decide +kernel
theorem d_W_takeLowered_33 : decode c_W_takeLowered 33 = .ok (.invokevirtual 54, 3) := by decide +kernel
theorem d_W_takeLowered_36 : decode c_W_takeLowered 36 = .ok (.iload_n 3, 1) := by decide +kernel
theorem d_W_takeLowered_37 : decode c_W_takeLowered 37 = .ok (.ifCond .eq 10, 3) := by decide +kernel
theorem d_W_takeLowered_40 : decode c_W_takeLowered 40 = .ok (.aload_n 0, 1) := by decide +kernel
theorem d_W_takeLowered_41 : decode c_W_takeLowered 41 = .ok (.getfield 10, 3) := by decide +kernel
theorem d_W_takeLowered_44 : decode c_W_takeLowered 44 = .ok (.invokevirtual 57, 3) := by decide +kernel
theorem d_W_takeLowered_47 : decode c_W_takeLowered 47 = .ok (.aload_n 0, 1) := by decide +kernel
theorem d_W_takeLowered_48 : decode c_W_takeLowered 48 = .ok (.aload_n 1, 1) := by decide +kernel
theorem d_W_takeLowered_49 : decode c_W_takeLowered 49 = .ok (.getfield 16, 3) := by decide +kernel
theorem d_W_takeLowered_52 : decode c_W_takeLowered 52 = .ok (.putfield 16, 3) := by decide +kernel
theorem d_W_takeLowered_55 : decode c_W_takeLowered 55 = .ok (.return_, 1) := by decide +kernel
theorem d_W_takeProduct_0 : decode c_W_takeProduct 0 = .ok (.aload_n 0, 1) := by decide +kernel
theorem d_W_takeProduct_1 : decode c_W_takeProduct 1 = .ok (.getfield 10, 3) := by decide +kernel
theorem d_W_takeProduct_4 : decode c_W_takeProduct 4 = .ok (.aload_n 1, 1) := by decide +kernel
theorem d_W_takeProduct_5 : decode c_W_takeProduct 5 = .ok (.getfield 10, 3) := by decide +kernel
theorem d_W_takeProduct_8 : decode c_W_takeProduct 8 = .ok (.aload_n 2, 1) := by decide +kernel
theorem d_W_takeProduct_9 : decode c_W_takeProduct 9 = .ok (.getfield 10, 3) := by decide +kernel
theorem d_W_takeProduct_12 : decode c_W_takeProduct 12 = .ok (.invokevirtual 43, 3) := by decide +kernel
theorem d_W_takeProduct_15 : decode c_W_takeProduct 15 = .ok (.aload_n 0, 1) := by decide +kernel
theorem d_W_takeProduct_16 : decode c_W_takeProduct 16 = .ok (.aload_n 1, 1) := by decide +kernel
theorem d_W_takeProduct_17 : decode c_W_takeProduct 17 = .ok (.getfield 16, 3) := by decide +kernel
theorem d_W_takeProduct_20 : decode c_W_takeProduct 20 = .ok (.aload_n 2, 1) := by decide +kernel
theorem d_W_takeProduct_21 : decode c_W_takeProduct 21 = .ok (.getfield 16, 3) := by decide +kernel
theorem d_W_takeProduct_24 : decode c_W_takeProduct 24 = .ok (.if_icmp .eq 17, 3) := by decide +kernel
theorem d_W_takeProduct_27 : decode c_W_takeProduct 27 = .ok (.aload_n 0, 1) := by decide +kernel
theorem d_W_takeProduct_28 : decode c_W_takeProduct 28 = .ok (.getfield 10, 3) := by decide +kernel
theorem d_W_takeProduct_31 : decode c_W_takeProduct 31 = .ok (.invokevirtual 24, 3) := by decide +kernel
theorem d_W_takeProduct_34 : decode c_W_takeProduct 34 = .ok (.ifCond .ne 7, 3) := by decide +kernel
theorem d_W_takeProduct_37 : decode c_W_takeProduct 37 = .ok (.iconst 1, 1) := by decide +kernel
theorem d_W_takeProduct_38 : decode c_W_takeProduct 38 = .ok (.goto 4, 3) := by decide +kernel
theorem d_W_takeProduct_41 : decode c_W_takeProduct 41 = .ok (.iconst 0, 1) := by decide +kernel
theorem d_W_takeProduct_42 : decode c_W_takeProduct 42 = .ok (.putfield 16, 3) := by decide +kernel
theorem d_W_takeProduct_45 : decode c_W_takeProduct 45 = .ok (.return_, 1) := by decide +kernel
theorem d_W_takeRaised_0 : decode c_W_takeRaised 0 = .ok (.aload_n 0, 1) := by decide +kernel
theorem d_W_takeRaised_1 : decode c_W_takeRaised 1 = .ok (.getfield 10, 3) := by decide +kernel
theorem d_W_takeRaised_4 : decode c_W_takeRaised 4 = .ok (.aload_n 1, 1) := by decide +kernel
theorem d_W_takeRaised_5 : decode c_W_takeRaised 5 = .ok (.getfield 10, 3) := by decide +kernel
theorem d_W_takeRaised_8 : decode c_W_takeRaised 8 = .ok (.iload_n 2, 1) := by decide +kernel
theorem d_W_takeRaised_9 : decode c_W_takeRaised 9 = .ok (.invokevirtual 46, 3) := by decide +kernel
theorem d_W_takeRaised_12 : decode c_W_takeRaised 12 = .ok (.aload_n 0, 1) := by decide +kernel
theorem d_W_takeRaised_13 : decode c_W_takeRaised 13 = .ok (.aload_n 1, 1) := by decide +kernel
theorem d_W_takeRaised_14 : decode c_W_takeRaised 14 = .ok (.getfield 16, 3) := by decide +kernel
theorem d_W_takeRaised_17 : decode c_W_takeRaised 17 = .ok (.putfield 16, 3) := by decide +kernel
theorem d_W_takeRaised_20 : decode c_W_takeRaised 20 = .ok (.return_, 1) := by decide +kernel
theorem d_W_takeSum_0 : decode c_W_takeSum 0 = .ok (.aload_n 2, 1) := by decide +kernel
theorem d_W_takeSum_1 : decode c_W_takeSum 1 = .ok (.getfield 16, 3) := by decide +kernel
theorem d_W_takeSum_4 : decode c_W_takeSum 4 = .ok (.iload_n 3, 1) := by decide +kernel
theorem d_W_takeSum_5 : decode c_W_takeSum 5 = .ok (.if_icmp .eq 7, 3) := by decide +kernel
theorem d_W_takeSum_8 : decode c_W_takeSum 8 = .ok (.iconst 1, 1) := by decide +kernel
theorem d_W_takeSum_9 : decode c_W_takeSum 9 = .ok (.goto 4, 3) := by decide +kernel
theorem d_W_takeSum_12 : decode c_W_takeSum 12 = .ok (.iconst 0, 1) := by decide +kernel
theorem d_W_takeSum_13 : decode c_W_takeSum 13 = .ok (.istore 4, 2) := by decide +kernel
theorem d_W_takeSum_15 : decode c_W_takeSum 15 = .ok (.aload_n 1, 1) := by decide +kernel
theorem d_W_takeSum_16 : decode c_W_takeSum 16 = .ok (.getfield 16, 3) := by decide +kernel
theorem d_W_takeSum_19 : decode c_W_takeSum 19 = .ok (.istore 5, 2) := by decide +kernel
theorem d_W_takeSum_21 : decode c_W_takeSum 21 = .ok (.aload_n 1, 1) := by decide +kernel
theorem d_W_takeSum_22 : decode c_W_takeSum 22 = .ok (.getfield 16, 3) := by decide +kernel
theorem d_W_takeSum_25 : decode c_W_takeSum 25 = .ok (.iload 4, 2) := by decide +kernel
theorem d_W_takeSum_27 : decode c_W_takeSum 27 = .ok (.if_icmp .ne 21, 3) := by decide +kernel
theorem d_W_takeSum_30 : decode c_W_takeSum 30 = .ok (.aload_n 0, 1) := by decide +kernel
theorem d_W_takeSum_31 : decode c_W_takeSum 31 = .ok (.getfield 10, 3) := by decide +kernel
theorem d_W_takeSum_34 : decode c_W_takeSum 34 = .ok (.aload_n 1, 1) := by decide +kernel
theorem d_W_takeSum_35 : decode c_W_takeSum 35 = .ok (.getfield 10, 3) := by decide +kernel
theorem d_W_takeSum_38 : decode c_W_takeSum 38 = .ok (.aload_n 2, 1) := by decide +kernel
theorem d_W_takeSum_39 : decode c_W_takeSum 39 = .ok (.getfield 10, 3) := by decide +kernel
theorem d_W_takeSum_42 : decode c_W_takeSum 42 = .ok (.invokevirtual 32, 3) := by decide +kernel
theorem d_W_takeSum_45 : decode c_W_takeSum 45 = .ok (.goto 54, 3) := by decide +kernel
theorem d_W_takeSum_48 : decode c_W_takeSum 48 = .ok (.aload_n 1, 1) := by decide +kernel
theorem d_W_takeSum_49 : decode c_W_takeSum 49 = .ok (.getfield 10, 3) := by decide +kernel
theorem d_W_takeSum_52 : decode c_W_takeSum 52 = .ok (.aload_n 2, 1) := by decide +kernel
theorem d_W_takeSum_53 : decode c_W_takeSum 53 = .ok (.getfield 10, 3) := by decide +kernel
theorem d_W_takeSum_56 : decode c_W_takeSum 56 = .ok (.invokevirtual 36, 3) := by decide +kernel
theorem d_W_takeSum_59 : decode c_W_takeSum 59 = .ok (.ifCond .lt 21, 3) := by decide +kernel
theorem d_W_takeSum_62 : decode c_W_takeSum 62 = .ok (.aload_n 0, 1) := by decide +kernel
theorem d_W_takeSum_63 : decode c_W_takeSum 63 = .ok (.getfield 10, 3) := by decide +kernel
theorem d_W_takeSum_66 : decode c_W_takeSum 66 = .ok (.aload_n 1, 1) := by decide +kernel
theorem d_W_takeSum_67 : decode c_W_takeSum 67 = .ok (.getfield 10, 3) := by decide +kernel
theorem d_W_takeSum_70 : decode c_W_takeSum 70 = .ok (.aload_n 2, 1) := by decide +kernel
theorem d_W_takeSum_71 : decode c_W_takeSum 71 = .ok (.getfield 10, 3) := by decide +kernel
theorem d_W_takeSum_74 : decode c_W_takeSum 74 = .ok (.invokevirtual 40, 3) := by decide +kernel
theorem d_W_takeSum_77 : decode c_W_takeSum 77 = .ok (.goto 22, 3) := by decide +kernel
theorem d_W_takeSum_80 : decode c_W_takeSum 80 = .ok (.aload_n 0, 1) := by decide +kernel
theorem d_W_takeSum_81 : decode c_W_takeSum 81 = .ok (.getfield 10, 3) := by decide +kernel
theorem d_W_takeSum_84 : decode c_W_takeSum 84 = .ok (.aload_n 2, 1) := by decide +kernel
theorem d_W_takeSum_85 : decode c_W_takeSum 85 = .ok (.getfield 10, 3) := by decide +kernel
theorem d_W_takeSum_88 : decode c_W_takeSum 88 = .ok (.aload_n 1, 1) := by decide +kernel
theorem d_W_takeSum_89 : decode c_W_takeSum 89 = .ok (.getfield 10, 3) := by decide +kernel
theorem d_W_takeSum_92 : decode c_W_takeSum 92 = .ok (.invokevirtual 40, 3) := by decide +kernel
theorem d_W_takeSum_95 : decode c_W_takeSum 95 = .ok (.iload 4, 2) := by decide +kernel
theorem d_W_takeSum_97 : decode c_W_takeSum 97 = .ok (.istore 5, 2) := by decide +kernel
theorem d_W_takeSum_99 : decode c_W_takeSum 99 = .ok (.aload_n 0, 1) := by decide +kernel
theorem d_W_takeSum_100 : decode c_W_takeSum 100 = .ok (.iload 5, 2) := by decide +kernel
theorem d_W_takeSum_102 : decode c_W_takeSum 102 = .ok (.ifCond .eq 17, 3) := by decide +kernel
theorem d_W_takeSum_105 : decode c_W_takeSum 105 = .ok (.aload_n 0, 1) := by decide +kernel
theorem d_W_takeSum_106 : decode c_W_takeSum 106 = .ok (.getfield 10, 3) := by decide +kernel
theorem d_W_takeSum_109 : decode c_W_takeSum 109 = .ok (.invokevirtual 24, 3) := by decide +kernel
theorem d_W_takeSum_112 : decode c_W_takeSum 112 = .ok (.ifCond .ne 7, 3) := by decide +kernel
theorem d_W_takeSum_115 : decode c_W_takeSum 115 = .ok (.iconst 1, 1) := by decide +kernel
theorem d_W_takeSum_116 : decode c_W_takeSum 116 = .ok (.goto 4, 3) := by decide +kernel
theorem d_W_takeSum_119 : decode c_W_takeSum 119 = .ok (.iconst 0, 1) := by decide +kernel
theorem d_W_takeSum_120 : decode c_W_takeSum 120 = .ok (.putfield 16, 3) := by decide +kernel
theorem d_W_takeSum_123 : decode c_W_takeSum 123 = .ok (.return_, 1) := by decide +kernel
end
section
/-! Division: contracts whose answer is told by a property -/
def mQlp (T : wT) (Pr : Int64 → Prop) (F : wFt) (U K : wUt) (I : wIt) (O : wOt) : Array Value → State → Outcome → State → Prop := va_Ql (fun x (_ : Unit) => Pr x) (fun _ t => wd T F U K I O t) (wA T)
section EP
variable {p : Program} {l : Launch} {e : Env} {R : Room} {s : State} {m : MethodId} {args : Array Value} {below : List Frame} {meth : Method} {c : Code} {H H0 : Heap} {locs : List Loc} {cells slots : Nat} {Q : State → Prop}
variable {cc : ByteArray} {pc maxL : Nat} {ls : Array Slot} {rest st0 As : List Value} {T : wT} {F F' : wFt} {U K U' K' : wUt} {I I' : wIt} {O O' : wOt} {A : Nat → Prop} {own : String}
variable {y : MethodName} {bytes : ByteArray} {mL n index k ci N : Nat} {fs : List Value} {Tt : u_T} {rm : Room} {Pr : Int64 → Prop}
theorem wM_lp (hpn : plainName y.cls = true) {av : List Value} (hav : (lg_sl av).length ≤ maxL)
    (body : ∀ (p : Program) (e : Env) (R : Room) (s : State) (m : MethodId) (args : Array Value) (below : List Frame) (meth : Method) (c : Code) (Q : State → Prop) (ls : Array Slot), p.tables.exec = Jvm.exec → c.code = cc → wC m c maxL s args y.cls → rm.frames ≤ R.frames → rm.locals ≤ R.locals →
      (∀ (r : Int64) (H : Heap) (locs : List Loc) (pc : Nat) (ls : Array Slot), Pr r → wH T F' U' K' I' O' (wA T) s s.heap H locs → decode cc pc = .ok (.lreturn, 1) → W p l e R s m args below meth c H locs 0 0 Q (F0 m pc ls [.long r])) →
      lv_has ls maxL (lv_args 0 av) → wH T F U K I O (wA T) s s.heap s.heap [] → W p l e R s m args below meth c s.heap [] 0 0 Q (F0 m 0 ls [])) :
    Met l y (.code y cc maxL (some .long) :: bg) rm (mP T F U K I O av) (mQlp T Pr F' U' K' I' O') 0 0 (wA T) := by
  refine Met.ofW (cc := cc) (maxL := maxL) (ret := some .long) hpn rfl ?_
  intro p e s m args below meth c s₁ B hml hv
  obtain ⟨rfl, hv⟩ := hv
  have hts := atoms_spec (ws := (.code y cc maxL (some .long) :: bg)) B.pre
  have hlocks := B.notSynchronized
  rw [lg_entry_eq]
  refine body p e _ s m _ below meth c _ _ B.exec B.bytes ⟨hml, fun w h => hts w (List.mem_cons_of_mem _ h), findClass_of_methodNamed B.named⟩ (Nat.le_refl _) (Nat.le_refl _) ?_ (lv_entry av hav) (wH.start hv)
  intro r H locs pc ls hP hw hd
  exact W.lret B.exec B.bytes B.returns (fun t ht hW => ⟨⟨r, (), rfl, hP, hw.stop ht hW.alike⟩, hw.2.2.2.1.F ht⟩) hw.2.2.2.1.2.2 hd hlocks
theorem wcV_lp (hx : p.tables.exec = Jvm.exec) (hb : c.code = cc) (hC : wC m c maxL s args own) (hw : wH T F U K I O A s H0 H locs)
    (hM : Met l y (.code y bytes mL (some .long) :: bg) rm (mP T F U K I O (.ref (wa T k) :: As)) (mQlp T Pr F' U' K' I' O') 0 0 (wA T)) (h : wLv own index y bytes mL (some .long) n) (hrc : rm.cells = 0) (hrs : rm.slots = 0) (hR : rm.frames + 1 ≤ R.frames ∧ 8 + (mL + 11) + rm.locals ≤ R.locals)
    (hk : k < 97) (he : wE T F U K I O k = .inr (ci, fs)) (hc : clS[ci]? = some (y.cls, Tt, N)) (hn : As.length = n) (hls : ls.size = maxL) (hst : st0 = As.reverse ++ .ref (wa T k) :: rest) (hW8 : (rest.map fun v => v.category).sum ≤ 8) (hf : cells ≤ R.cells ∧ slots ≤ R.slots) (hdg : decode cc pc = .ok (.invokevirtual index, 3))
    (kk : ∀ (r : Int64) (H1 : Heap) (locs1 : List Loc), Pr r → wH T F' U' K' I' O' A s H0 H1 locs1 → W p l e R s m args below meth c H1 locs1 cells slots Q (F0 m (pc + 3) ls (.long r :: rest))) : W p l e R s m args below meth c H locs cells slots Q (F0 m pc ls st0) := by
  refine va_calll (va_runV (C := y.cls) (As := As) (rest := rest) ⟨hx, hb, hC.1, hC.2.2, hC.2.1⟩ hM ⟨wc_B hC h.1 hrc hrs hR, hC.hts h.2.1, hC.hts h.2.2⟩ ⟨mP_blind, hw.recv hk he hc, hw.pre⟩ rfl hn hls hst (lv_room hW8) hdg hf) hw.2.2.2.1 (fun q _ h => wA_sub hw q h) (wA_sub hw) (fun r9 u t H1 locs1 ht hvm hp hB hz hk1 hS => ?_)
  exact kk r9 H1 locs1 hp (hw.back ht hvm hB hS)
end EP
/-! windows of limbs -/
def ta (f : Nat → Int64) (fr n X : Nat) (t : Int64) : Nat → Int64 := fun j => if fr ≤ j ∧ j < fr + n then fD X (j - fr) else if j = fr + n then t else f j
theorem ts_carry {h : Nat → Int64} {fr i : Nat} {t : Int64} {c x S : Int} (ht : t.toInt = c + x) (H : lm_ev b28 (fun j => nd h (fr + j)) i + c * b28 ^ i = S) :
    lm_ev b28 (fun j => nd (vp_updL h (fr + i) (t &&& 268435455)) (fr + j)) (i + 1) + (t >>> ((nI 28).toInt64 &&& 63)).toInt * b28 ^ (i + 1) = S + x * b28 ^ i := by
  have e3 : (t >>> ((nI 28).toInt64 &&& 63)).toInt = t.toInt / 268435456 := lj_shr28 t
  rw [e3]
  refine lm_step b28_pos ?_ x ht ?_
  · rw [← H]; congr 1; exact lm_congr (fun j hj => nd_updN (by omega))
  · show nd _ (fr + i) = _
    rw [nd_upd, lj_and28]
theorem ts_in {h : Nat → Int64} {fr i : Nat} {t : Int64} (hd : ∀ j, j < i → 0 ≤ nd h (fr + j) ∧ nd h (fr + j) < b28) : ∀ j, j < i + 1 → 0 ≤ nd (vp_updL h (fr + i) (t &&& 268435455)) (fr + j) ∧ nd (vp_updL h (fr + i) (t &&& 268435455)) (fr + j) < b28 := by
  intro j hj
  by_cases e : j = i
  · rw [e, nd_upd]; exact nd_and t
  · rw [nd_updN (by omega)]; exact hd j (by omega)
/-- lower limbs by a number, the top limb by what is left -/
theorem ta_end {h f : Nat → Int64} {fr n X : Nat} {t z : Int64} (hd : ∀ j, j < n → 0 ≤ nd h (fr + j) ∧ nd h (fr + j) < b28) {c D : Int} (he : lm_ev b28 (fun j => nd h (fr + j)) n + c * b28 ^ n = D) (hX : X < vB ^ n) (hD : (X : Int) + t.toInt * b28 ^ n = D + z.toInt * b28 ^ n) (hc : (z.toInt + c = (z.toInt + c))) (ho : ∀ j, (j < fr ∨ fr + n ≤ j) → h j = f j) :
    t.toInt = z.toInt + c ∧ ∀ j, j ≠ fr + n → h j = ta f fr n X t j := by
  have hp := lm_powpos b28_pos n
  have h1 := lm_nonneg b28_pos (f := fun j => nd h (fr + j)) (n := n) (fun j hj => (hd j hj).1)
  have h2 := lm_lt b28_pos (f := fun j => nd h (fr + j)) (n := n) (fun j hj => (hd j hj).2)
  have h3 : (X : Int) < b28 ^ n := by rw [← vB_c, ← Int.natCast_pow]; exact Int.ofNat_lt.mpr hX
  have e1 : t.toInt = z.toInt + c := by
    have e2 : (t.toInt - z.toInt - c) * b28 ^ n = lm_ev b28 (fun j => nd h (fr + j)) n - X := by grind
    by_cases e0 : t.toInt - z.toInt - c = 0
    · omega
    · exfalso
      rcases (show t.toInt - z.toInt - c ≥ 1 ∨ t.toInt - z.toInt - c ≤ -1 by omega) with g | g
      · have := Int.mul_le_mul_of_nonneg_right g (Int.le_of_lt hp); omega
      · have := Int.mul_le_mul_of_nonneg_right g (Int.le_of_lt hp); omega
  have e4 : lm_ev b28 (fun j => nd h (fr + j)) n = (X : Int) := by rw [e1] at hD; grind
  refine ⟨e1, fun j hj => ?_⟩
  unfold ta
  by_cases e5 : fr ≤ j ∧ j < fr + n
  · rw [if_pos e5]
    have := fD_uniq (f := fun k => h (fr + k)) hd e4 (j := j - fr) (by omega)
    rw [← this, show fr + (j - fr) = j by omega]
  · rw [if_neg e5, if_neg hj]; exact ho j (by omega)
theorem da_step {h : Nat → Int64} {fr i : Nat} {c d g b t : Int64} {S : Int} (hc : -268435456 ≤ c.toInt ∧ c.toInt ≤ 0) (hd : 0 ≤ d.toInt ∧ d.toInt < 268435456) (hg : 0 ≤ g.toInt ∧ g.toInt < 268435456) (hb : 0 ≤ b.toInt ∧ b.toInt < 268435456) (ht : t = c + (d - g * b)) (H : lm_ev b28 (fun j => nd h (fr + j)) i + c.toInt * b28 ^ i = S) :
    (-268435456 ≤ (t >>> ((nI 28).toInt64 &&& 63)).toInt ∧ (t >>> ((nI 28).toInt64 &&& 63)).toInt ≤ 0) ∧ lm_ev b28 (fun j => nd (vp_updL h (fr + i) (t &&& 268435455)) (fr + j)) (i + 1) + (t >>> ((nI 28).toInt64 &&& 63)).toInt * b28 ^ (i + 1) = S + (d.toInt - g.toInt * b.toInt) * b28 ^ i := by
  have hm := lm_mulbd hg.1 hb.1 (show g.toInt ≤ 268435455 by omega) (show b.toInt ≤ 268435455 by omega)
  have e0 : (g * b).toInt = g.toInt * b.toInt := lj_mul (by omega) (by omega)
  have e1 : (d - g * b).toInt = d.toInt - g.toInt * b.toInt := by rw [lj_sub (by rw [e0]; omega) (by rw [e0]; omega), e0]
  have e2 : t.toInt = c.toInt + (d.toInt - g.toInt * b.toInt) := by rw [ht, lj_add (by rw [e1]; omega) (by rw [e1]; omega), e1]
  refine ⟨?_, ts_carry e2 H⟩
  have e3 : (t >>> ((nI 28).toInt64 &&& 63)).toInt = t.toInt / 268435456 := lj_shr28 t
  rw [e3, e2]; omega
theorem db_step {h : Nat → Int64} {fr i : Nat} {c d b t : Int64} {S : Int} (hc : 0 ≤ c.toInt ∧ c.toInt ≤ 1) (hd : 0 ≤ d.toInt ∧ d.toInt < 268435456) (hb : 0 ≤ b.toInt ∧ b.toInt < 268435456) (ht : t = c + (d + b)) (H : lm_ev b28 (fun j => nd h (fr + j)) i + c.toInt * b28 ^ i = S) :
    (0 ≤ (t >>> ((nI 28).toInt64 &&& 63)).toInt ∧ (t >>> ((nI 28).toInt64 &&& 63)).toInt ≤ 1) ∧ lm_ev b28 (fun j => nd (vp_updL h (fr + i) (t &&& 268435455)) (fr + j)) (i + 1) + (t >>> ((nI 28).toInt64 &&& 63)).toInt * b28 ^ (i + 1) = S + (d.toInt + b.toInt) * b28 ^ i := by
  have e1 : (d + b).toInt = d.toInt + b.toInt := lj_add (by omega) (by omega)
  have e2 : t.toInt = c.toInt + (d.toInt + b.toInt) := by rw [ht, lj_add (by rw [e1]; omega) (by rw [e1]; omega), e1]
  refine ⟨?_, ts_carry e2 H⟩
  have e3 : (t >>> ((nI 28).toInt64 &&& 63)).toInt = t.toInt / 268435456 := lj_shr28 t
  rw [e3, e2]; omega

set_option maxRecDepth 100000 in
set_option maxHeartbeats 4000000 in
theorem k_D_takeAway (l : Launch) (T : wT) (F : wFt) (U K : wUt) (I : wIt) (O : wOt) (d fr n v X : Nat) (t : Int64) (hd3 : d < 3) (hn : n ≤ 74) (hfr : fr + n ≤ 74) (hU : U (15 + 3 * d) = nI n) (hv : v < vB ^ n) (hL : ∀ j, F (15 + 3 * d) j = fD v j) (g D : Nat) (hg : g < 268435456) (hdg : ∀ j, j ≤ n → 0 ≤ nd (F (14 + 3 * d)) (fr + j) ∧ nd (F (14 + 3 * d)) (fr + j) < b28) (hD : lm_ev b28 (fun j => nd (F (14 + 3 * d)) (fr + j)) (n + 1) = (D : Int)) (hX : X < vB ^ n) (he : (X : Int) + t.toInt * b28 ^ n = (D : Int) - (g : Int) * (v : Int)) : Met l y_D_takeAway (.code y_D_takeAway c_D_takeAway 10 (some .boolean) :: bg) ({ frames := 0, cells := 0, slots := 0, locals := 0 } : Room) (mP T F U K I O [.ref (wa T (81 + d)), .int (nI fr), .long (lN g)]) (mQi T (if 0 ≤ t.toInt then (1 : Int32) else 0) (va_up F (14 + 3 * d) (ta (F (14 + 3 * d)) fr n X t)) U K I O) 0 0 (wA T) := by
  refine wM_z (by decide) (Nat.le_of_ble_eq_true rfl) (zN _) ?_
  intro p e R s m args below meth c Q ls hx hb hC hRf hRl hret hl hw
  have hRf : 0 ≤ R.frames := hRf
  have hRl : 0 ≤ R.locals := hRl
  have hl : lv_has ls 10 [(0, .ref (wa T (81 + d))), (1, .int (nI fr)), (2, .long (lN g))] := hl
  have eg : (lN g).toInt = (g : Int) := lj_lN (by omega)
  refine lv_aload_n hx hb d_D_takeAway_0 rfl (lv_at hl 0 rfl) ?_
  refine wg_Division_rest hx hb hC hw (by omega) bw_93 d_D_takeAway_1 ?_
  refine wg_Natural_limbs hx hb hC hw (by omega) bw_44 d_D_takeAway_4 ?_
  refine lv_astore hx hb d_D_takeAway_7 hl (by decide) rfl (fun ls hl => ?_)
  have hl : lv_has ls 10 [(4, .ref (wa T (34 + (14 + 3 * d)))), (0, .ref (wa T (81 + d))), (1, .int (nI fr)), (2, .long (lN g))] := hl
  refine lv_aload_n hx hb d_D_takeAway_9 rfl (lv_at hl 1 rfl) ?_
  refine wg_Division_lifted hx hb hC hw (by omega) bw_97 d_D_takeAway_10 ?_
  refine wg_Natural_limbs hx hb hC hw (by omega) bw_44 d_D_takeAway_13 ?_
  refine lv_astore hx hb d_D_takeAway_16 hl (by decide) rfl (fun ls hl => ?_)
  have hl : lv_has ls 10 [(5, .ref (wa T (34 + (15 + 3 * d)))), (4, .ref (wa T (34 + (14 + 3 * d)))), (0, .ref (wa T (81 + d))), (1, .int (nI fr)), (2, .long (lN g))] := hl
  refine lv_aload_n hx hb d_D_takeAway_18 rfl (lv_at hl 2 rfl) ?_
  refine wg_Division_lifted hx hb hC hw (by omega) bw_97 d_D_takeAway_19 ?_
  refine wg_Natural_used hx hb hC hw (by omega) bw_46 d_D_takeAway_22 ?_
  refine sw_i (y := nI n) (hU) ?_
  refine lv_istore hx hb d_D_takeAway_25 hl (by decide) rfl (fun ls hl => ?_)
  have hl : lv_has ls 10 [(6, .int (nI n)), (5, .ref (wa T (34 + (15 + 3 * d)))), (4, .ref (wa T (34 + (14 + 3 * d)))), (0, .ref (wa T (81 + d))), (1, .int (nI fr)), (2, .long (lN g))] := hl
  refine lv_lconst (v := 0) hx hb d_D_takeAway_27 (by decide +kernel) ?_
  refine lv_lstore hx hb d_D_takeAway_28 hl (by decide) rfl (fun ls hl => ?_)
  have hl : lv_has ls 10 [(7, .long (0 : Int64)), (6, .int (nI n)), (5, .ref (wa T (34 + (15 + 3 * d)))), (4, .ref (wa T (34 + (14 + 3 * d)))), (0, .ref (wa T (81 + d))), (1, .int (nI fr)), (2, .long (lN g))] := hl
  refine lv_iconst (v := nI 0) hx hb d_D_takeAway_30 (by decide +kernel) ?_
  refine lv_istore hx hb d_D_takeAway_31 hl (by decide) rfl (fun ls hl => ?_)
  have hl : lv_has ls 10 [(9, .int (nI 0)), (7, .long (0 : Int64)), (6, .int (nI n)), (5, .ref (wa T (34 + (15 + 3 * d)))), (4, .ref (wa T (34 + (14 + 3 * d)))), (0, .ref (wa T (81 + d))), (1, .int (nI fr)), (2, .long (lN g))] := hl
  rw [← va_upx F (14 + 3 * d)] at hw
  have lp : ∀ (z9 i : Nat) (f : Nat → Int64) (cy : Int64) (ls : Array Slot) (H : Heap) (locs : List Loc), n - i = z9 → i ≤ n → (-268435456 ≤ cy.toInt ∧ cy.toInt ≤ 0) → (lm_ev b28 (fun j => nd f (fr + j)) i + cy.toInt * b28 ^ i = lm_ev b28 (fun j => nd (F (14 + 3 * d)) (fr + j)) i - (g : Int) * lm_ev b28 (nd (fD v)) i) → (∀ j, j < i → 0 ≤ nd f (fr + j) ∧ nd f (fr + j) < b28) → (∀ j, (j < fr ∨ fr + i ≤ j) → f j = F (14 + 3 * d) j) →  lv_has ls 10 [(9, .int (nI i)), (7, .long cy), (6, .int (nI n)), (5, .ref (wa T (34 + (15 + 3 * d)))), (4, .ref (wa T (34 + (14 + 3 * d)))), (0, .ref (wa T (81 + d))), (1, .int (nI fr)), (2, .long (lN g))] → wH T (va_up F (14 + 3 * d) f) U K I O (wA T) s s.heap H locs → W p l e R s m args below meth c H locs 0 0 Q (F0 m 33 ls []) := by
    intro z9
    induction z9 with
    | zero =>
      intro i f cy ls H locs hn hle h1 h2 h3 h4 hl hw
      refine lv_iload hx hb d_D_takeAway_33 (lv_at hl 0 rfl) ?_
      refine lv_iload hx hb d_D_takeAway_35 (lv_at hl 2 rfl) ?_
      refine n_icmp_ge (tgt := 86) hx hb d_D_takeAway_37 (by decide) (by omega) (by omega) (fun h0 => ?_) (fun h0 => ?_)
      · have e9 : n = i := by omega
        subst e9
        have ev0 : lm_ev b28 (nd (fD v)) n = (v : Int) := by rw [fD_ev, Nat.mod_eq_of_lt hv]
        have hz := hdg n (Nat.le_refl n)
        rw [lm_evs] at hD
        obtain ⟨q1, q2⟩ := ta_end (t := t) (z := F (14 + 3 * d) (fr + n)) h3 h2 hX (by rw [ev0]; have h9 : lm_ev b28 (fun j => nd (F (14 + 3 * d)) (fr + j)) n + nd (F (14 + 3 * d)) (fr + n) * b28 ^ n = (D : Int) := hD; show (X : Int) + t.toInt * b28 ^ n = _ + nd (F (14 + 3 * d)) (fr + n) * b28 ^ n; rw [he, ← h9]; grind) rfl h4
        have q3 : F (14 + 3 * d) (fr + n) + cy = t := lj_inj (by
          have h9 : 0 ≤ (F (14 + 3 * d) (fr + n)).toInt ∧ (F (14 + 3 * d) (fr + n)).toInt < 268435456 := hz
          rw [lj_add (by omega) (by omega), q1])
        refine lv_aload hx hb d_D_takeAway_86 (lv_at hl 4 rfl) ?_
        refine lv_iload_n hx hb d_D_takeAway_88 rfl (lv_at hl 6 rfl) ?_
        refine lv_iload hx hb d_D_takeAway_89 (lv_at hl 2 rfl) ?_
        refine n_iadd hx hb d_D_takeAway_91 ?_
        refine lv_dup2_11 hx hb d_D_takeAway_92 rfl rfl ?_
        refine wl_limbs hx hb hw (by omega) (by omega) d_D_takeAway_93 ?_
        refine sw_l (y := F (14 + 3 * d) (fr + n)) (by rw [va_up_self]; exact h4 _ (by omega)) ?_
        refine lv_lload hx hb d_D_takeAway_94 (lv_at hl 1 rfl) ?_
        refine lv_ladd hx hb d_D_takeAway_96 ?_
        refine sw_l (y := t) (q3) ?_
        refine ws_limbs hx hb hw (by omega) (by omega) d_D_takeAway_97 (fun H locs hw => ?_)
        rw [bx_uu, va_up_self] at hw
        have hw := wH.canon (g := ta (F (14 + 3 * d)) fr n X t) (by omega) hw (fun j _ => by
          by_cases ej : j = fr + n
          · rw [ej, pk_uLs]; unfold ta; rw [if_neg (by omega), if_pos rfl]
          · rw [pk_uLn ej]; exact q2 j ej)
        refine lv_aload hx hb d_D_takeAway_98 (lv_at hl 4 rfl) ?_
        refine lv_iload_n hx hb d_D_takeAway_100 rfl (lv_at hl 6 rfl) ?_
        refine lv_iload hx hb d_D_takeAway_101 (lv_at hl 2 rfl) ?_
        refine n_iadd hx hb d_D_takeAway_103 ?_
        refine wl_limbs hx hb hw (by omega) (by omega) d_D_takeAway_104 ?_
        refine sw_l (y := t) (by rw [va_up_self]; unfold ta; rw [if_neg (by omega), if_pos rfl]) ?_
        refine lv_lconst (v := 0) hx hb d_D_takeAway_105 (by decide +kernel) ?_
        refine lc_lt (tgt := 114) hx hb d_D_takeAway_106 d_D_takeAway_107 (by decide) (fun h8 => ?_) (fun h8 => ?_)
        · refine lv_iconst (v := nI 0) hx hb d_D_takeAway_114 (by decide +kernel) ?_
          refine sw_i (y := (if 0 ≤ t.toInt then (1 : Int32) else 0)) (by rw [lj_0] at h8; rw [if_neg (by omega)]; rfl) ?_
          exact hret _ _ _ _ hw d_D_takeAway_115
        · refine lv_iconst (v := nI 1) hx hb d_D_takeAway_110 (by decide +kernel) ?_
          refine lv_goto (tgt := 115) hx hb d_D_takeAway_111 (by decide) ?_
          refine sw_i (y := (if 0 ≤ t.toInt then (1 : Int32) else 0)) (by rw [lj_0] at h8; rw [if_pos (by omega)]; rfl) ?_
          exact hret _ _ _ _ hw d_D_takeAway_115
      · exact absurd h0 (by omega)
    | succ z9 ih =>
      intro i f cy ls H locs hn hle h1 h2 h3 h4 hl hw
      refine lv_iload hx hb d_D_takeAway_33 (lv_at hl 0 rfl) ?_
      refine lv_iload hx hb d_D_takeAway_35 (lv_at hl 2 rfl) ?_
      refine n_icmp_ge (tgt := 86) hx hb d_D_takeAway_37 (by decide) (by omega) (by omega) (fun h0 => ?_) (fun h0 => ?_)
      · exact absurd h0 (by omega)
      · refine lv_lload hx hb d_D_takeAway_40 (lv_at hl 1 rfl) ?_
        refine lv_aload hx hb d_D_takeAway_42 (lv_at hl 4 rfl) ?_
        refine lv_iload_n hx hb d_D_takeAway_44 rfl (lv_at hl 6 rfl) ?_
        refine lv_iload hx hb d_D_takeAway_45 (lv_at hl 0 rfl) ?_
        refine n_iadd hx hb d_D_takeAway_47 ?_
        refine wl_limbs hx hb hw (by omega) (by omega) d_D_takeAway_48 ?_
        refine sw_l (y := F (14 + 3 * d) (fr + i)) (by rw [va_up_self]; exact h4 _ (by omega)) ?_
        refine lv_lload_n hx hb d_D_takeAway_49 rfl (lv_at hl 7 rfl) ?_
        refine lv_aload hx hb d_D_takeAway_50 (lv_at hl 3 rfl) ?_
        refine lv_iload hx hb d_D_takeAway_52 (lv_at hl 0 rfl) ?_
        refine wl_limbs hx hb hw (by omega) (by omega) d_D_takeAway_54 ?_
        refine sw_l (y := fD v i) (by rw [va_up_ne _ _ (by omega)]; exact hL i) ?_
        refine lv_lmul hx hb d_D_takeAway_55 ?_
        refine lv_lsub hx hb d_D_takeAway_56 ?_
        refine lv_ladd hx hb d_D_takeAway_57 ?_
        refine lv_topl (fun t9 et => ?_)
        refine lv_lstore hx hb d_D_takeAway_58 hl (by decide) rfl (fun ls hl => ?_)
        have hl : lv_has ls 10 [(7, .long t9), (9, .int (nI i)), (6, .int (nI n)), (5, .ref (wa T (34 + (15 + 3 * d)))), (4, .ref (wa T (34 + (14 + 3 * d)))), (0, .ref (wa T (81 + d))), (1, .int (nI fr)), (2, .long (lN g))] := hl
        refine lv_aload hx hb d_D_takeAway_60 (lv_at hl 4 rfl) ?_
        refine lv_iload_n hx hb d_D_takeAway_62 rfl (lv_at hl 6 rfl) ?_
        refine lv_iload hx hb d_D_takeAway_63 (lv_at hl 1 rfl) ?_
        refine n_iadd hx hb d_D_takeAway_65 ?_
        refine lv_lload hx hb d_D_takeAway_66 (lv_at hl 0 rfl) ?_
        refine lv_ldc2 (v := 268435455) hx hb hC.ow (hC.hts bw_488) d_D_takeAway_68 ?_
        refine lv_land hx hb d_D_takeAway_71 ?_
        refine ws_limbs hx hb hw (by omega) (by omega) d_D_takeAway_72 (fun H locs hw => ?_)
        refine lv_lload hx hb d_D_takeAway_73 (lv_at hl 0 rfl) ?_
        refine lv_bipush (v := nI 28) hx hb d_D_takeAway_75 (by decide +kernel) ?_
        refine lv_lshr hx hb d_D_takeAway_77 rfl ?_
        refine lv_lstore hx hb d_D_takeAway_78 hl (by decide) rfl (fun ls hl => ?_)
        have hl : lv_has ls 10 [(7, .long (t9 >>> ((nI 28).toInt64 &&& 63))), (9, .int (nI i)), (6, .int (nI n)), (5, .ref (wa T (34 + (15 + 3 * d)))), (4, .ref (wa T (34 + (14 + 3 * d)))), (0, .ref (wa T (81 + d))), (1, .int (nI fr)), (2, .long (lN g))] := hl
        refine lv_iinc (v := nI (i + 1)) hx hb d_D_takeAway_80 hl (k := 1) rfl (nI_add _ 1) (by decide) rfl (fun ls hl => ?_)
        have hl : lv_has ls 10 [(9, .int (nI (i + 1))), (7, .long (t9 >>> ((nI 28).toInt64 &&& 63))), (6, .int (nI n)), (5, .ref (wa T (34 + (15 + 3 * d)))), (4, .ref (wa T (34 + (14 + 3 * d)))), (0, .ref (wa T (81 + d))), (1, .int (nI fr)), (2, .long (lN g))] := hl
        refine lv_goto (tgt := 33) hx hb d_D_takeAway_83 (by decide) ?_
        rw [bx_uu, va_up_self] at hw
        have q := da_step h1 (hdg i (by omega)) (by rw [eg]; omega) (fD_in v i) et h2
        exact ih (i + 1) _ _ ls H locs (by omega) (by omega) q.1 (q.2.trans (by rw [lm_evs, lm_evs, eg]; show _ + (nd (F (14 + 3 * d)) (fr + i) - (g : Int) * nd (fD v) i) * _ = _; grind)) (ts_in h3) (fun j hj => by rw [pk_uLn (by omega)]; exact h4 j (by omega)) hl hw
  exact lp n 0 (F (14 + 3 * d)) 0 ls _ _ (by omega) (by omega) (by decide +kernel) (by rw [lm_ev0, lm_ev0, lj_0]; simp) (fun j h => absurd h (by omega)) (fun _ _ => rfl) hl hw
set_option maxRecDepth 100000 in
set_option maxHeartbeats 4000000 in
theorem k_D_putBack (l : Launch) (T : wT) (F : wFt) (U K : wUt) (I : wIt) (O : wOt) (d fr n v X : Nat) (t : Int64) (hd3 : d < 3) (hn : n ≤ 74) (hfr : fr + n ≤ 74) (hU : U (15 + 3 * d) = nI n) (hv : v < vB ^ n) (hL : ∀ j, F (15 + 3 * d) j = fD v j) (X0 : Nat) (t0 : Int64) (hX0 : X0 < vB ^ n) (hlow : ∀ j, j < n → F (14 + 3 * d) (fr + j) = fD X0 j) (htop : F (14 + 3 * d) (fr + n) = t0) (ht0 : -2 ≤ t0.toInt ∧ t0.toInt ≤ 268435456) (hX : X < vB ^ n) (he : (X : Int) + t.toInt * b28 ^ n = (X0 : Int) + t0.toInt * b28 ^ n + (v : Int)) : Met l y_D_putBack (.code y_D_putBack c_D_putBack 6 none :: bg) ({ frames := 0, cells := 0, slots := 0, locals := 0 } : Room) (mP T F U K I O [.ref (wa T (81 + d)), .int (nI fr)]) (mQv T (va_up F (14 + 3 * d) (ta (F (14 + 3 * d)) fr n X t)) U K I O) 0 0 (wA T) := by
  refine wM_v (by decide) (Nat.le_of_ble_eq_true rfl) ?_
  intro p e R s m args below meth c Q ls hx hb hC hRf hRl hret hl hw
  have hRf : 0 ≤ R.frames := hRf
  have hRl : 0 ≤ R.locals := hRl
  have hl : lv_has ls 6 [(0, .ref (wa T (81 + d))), (1, .int (nI fr))] := hl
  refine lv_aload_n hx hb d_D_putBack_0 rfl (lv_at hl 0 rfl) ?_
  refine wg_Division_lifted hx hb hC hw (by omega) bw_97 d_D_putBack_1 ?_
  refine wg_Natural_used hx hb hC hw (by omega) bw_46 d_D_putBack_4 ?_
  refine sw_i (y := nI n) (hU) ?_
  refine lv_istore_n hx hb d_D_putBack_7 rfl hl (by decide) rfl (fun ls hl => ?_)
  have hl : lv_has ls 6 [(2, .int (nI n)), (0, .ref (wa T (81 + d))), (1, .int (nI fr))] := hl
  refine lv_lconst (v := 0) hx hb d_D_putBack_8 (by decide +kernel) ?_
  refine lv_lstore_n hx hb d_D_putBack_9 rfl hl (by decide) rfl (fun ls hl => ?_)
  have hl : lv_has ls 6 [(3, .long (0 : Int64)), (2, .int (nI n)), (0, .ref (wa T (81 + d))), (1, .int (nI fr))] := hl
  refine lv_iconst (v := nI 0) hx hb d_D_putBack_10 (by decide +kernel) ?_
  refine lv_istore hx hb d_D_putBack_11 hl (by decide) rfl (fun ls hl => ?_)
  have hl : lv_has ls 6 [(5, .int (nI 0)), (3, .long (0 : Int64)), (2, .int (nI n)), (0, .ref (wa T (81 + d))), (1, .int (nI fr))] := hl
  rw [← va_upx F (14 + 3 * d)] at hw
  have lp : ∀ (z9 i : Nat) (f : Nat → Int64) (cy : Int64) (ls : Array Slot) (H : Heap) (locs : List Loc), n - i = z9 → i ≤ n → (0 ≤ cy.toInt ∧ cy.toInt ≤ 1) → (lm_ev b28 (fun j => nd f (fr + j)) i + cy.toInt * b28 ^ i = lm_ev b28 (nd (fD X0)) i + lm_ev b28 (nd (fD v)) i) → (∀ j, j < i → 0 ≤ nd f (fr + j) ∧ nd f (fr + j) < b28) → (∀ j, (j < fr ∨ fr + i ≤ j) → f j = F (14 + 3 * d) j) →  lv_has ls 6 [(5, .int (nI i)), (3, .long cy), (2, .int (nI n)), (0, .ref (wa T (81 + d))), (1, .int (nI fr))] → wH T (va_up F (14 + 3 * d) f) U K I O (wA T) s s.heap H locs → W p l e R s m args below meth c H locs 0 0 Q (F0 m 13 ls []) := by
    intro z9
    induction z9 with
    | zero =>
      intro i f cy ls H locs hn hle h1 h2 h3 h4 hl hw
      refine lv_iload hx hb d_D_putBack_13 (lv_at hl 0 rfl) ?_
      refine lv_iload_n hx hb d_D_putBack_15 rfl (lv_at hl 2 rfl) ?_
      refine n_icmp_ge (tgt := 73) hx hb d_D_putBack_16 (by decide) (by omega) (by omega) (fun h0 => ?_) (fun h0 => ?_)
      · have e9 : n = i := by omega
        subst e9
        have ev0 : lm_ev b28 (nd (fD v)) n = (v : Int) := by rw [fD_ev, Nat.mod_eq_of_lt hv]
        have ev1 : lm_ev b28 (nd (fD X0)) n = (X0 : Int) := by rw [fD_ev, Nat.mod_eq_of_lt hX0]
        obtain ⟨q1, q2⟩ := ta_end (t := t) (z := t0) h3 h2 hX (by rw [ev0, ev1, he]; grind) rfl h4
        have q3 : t0 + cy = t := lj_inj (by rw [lj_add (by omega) (by omega), q1])
        refine lv_aload_n hx hb d_D_putBack_73 rfl (lv_at hl 3 rfl) ?_
        refine wg_Division_rest hx hb hC hw (by omega) bw_93 d_D_putBack_74 ?_
        refine wg_Natural_limbs hx hb hC hw (by omega) bw_44 d_D_putBack_77 ?_
        refine lv_iload_n hx hb d_D_putBack_80 rfl (lv_at hl 4 rfl) ?_
        refine lv_iload_n hx hb d_D_putBack_81 rfl (lv_at hl 2 rfl) ?_
        refine n_iadd hx hb d_D_putBack_82 ?_
        refine lv_dup2_11 hx hb d_D_putBack_83 rfl rfl ?_
        refine wl_limbs hx hb hw (by omega) (by omega) d_D_putBack_84 ?_
        refine sw_l (y := t0) (by rw [va_up_self, h4 _ (by omega)]; exact htop) ?_
        refine lv_lload_n hx hb d_D_putBack_85 rfl (lv_at hl 1 rfl) ?_
        refine lv_ladd hx hb d_D_putBack_86 ?_
        refine sw_l (y := t) (q3) ?_
        refine ws_limbs hx hb hw (by omega) (by omega) d_D_putBack_87 (fun H locs hw => ?_)
        rw [bx_uu, va_up_self] at hw
        have hw := wH.canon (g := ta (F (14 + 3 * d)) fr n X t) (by omega) hw (fun j _ => by
          by_cases ej : j = fr + n
          · rw [ej, pk_uLs]; unfold ta; rw [if_neg (by omega), if_pos rfl]
          · rw [pk_uLn ej]; exact q2 j ej)
        exact hret _ _ _ _ hw d_D_putBack_88
      · exact absurd h0 (by omega)
    | succ z9 ih =>
      intro i f cy ls H locs hn hle h1 h2 h3 h4 hl hw
      refine lv_iload hx hb d_D_putBack_13 (lv_at hl 0 rfl) ?_
      refine lv_iload_n hx hb d_D_putBack_15 rfl (lv_at hl 2 rfl) ?_
      refine n_icmp_ge (tgt := 73) hx hb d_D_putBack_16 (by decide) (by omega) (by omega) (fun h0 => ?_) (fun h0 => ?_)
      · exact absurd h0 (by omega)
      · refine lv_lload_n hx hb d_D_putBack_19 rfl (lv_at hl 1 rfl) ?_
        refine lv_aload_n hx hb d_D_putBack_20 rfl (lv_at hl 3 rfl) ?_
        refine wg_Division_rest hx hb hC hw (by omega) bw_93 d_D_putBack_21 ?_
        refine wg_Natural_limbs hx hb hC hw (by omega) bw_44 d_D_putBack_24 ?_
        refine lv_iload_n hx hb d_D_putBack_27 rfl (lv_at hl 4 rfl) ?_
        refine lv_iload hx hb d_D_putBack_28 (lv_at hl 0 rfl) ?_
        refine n_iadd hx hb d_D_putBack_30 ?_
        refine wl_limbs hx hb hw (by omega) (by omega) d_D_putBack_31 ?_
        refine sw_l (y := fD X0 i) (by rw [va_up_self, h4 _ (by omega)]; exact hlow i (by omega)) ?_
        refine lv_aload_n hx hb d_D_putBack_32 rfl (lv_at hl 3 rfl) ?_
        refine wg_Division_lifted hx hb hC hw (by omega) bw_97 d_D_putBack_33 ?_
        refine wg_Natural_limbs hx hb hC hw (by omega) bw_44 d_D_putBack_36 ?_
        refine lv_iload hx hb d_D_putBack_39 (lv_at hl 0 rfl) ?_
        refine wl_limbs hx hb hw (by omega) (by omega) d_D_putBack_41 ?_
        refine sw_l (y := fD v i) (by rw [va_up_ne _ _ (by omega)]; exact hL i) ?_
        refine lv_ladd hx hb d_D_putBack_42 ?_
        refine lv_ladd hx hb d_D_putBack_43 ?_
        refine lv_topl (fun t9 et => ?_)
        refine lv_lstore_n hx hb d_D_putBack_44 rfl hl (by decide) rfl (fun ls hl => ?_)
        have hl : lv_has ls 6 [(3, .long t9), (5, .int (nI i)), (2, .int (nI n)), (0, .ref (wa T (81 + d))), (1, .int (nI fr))] := hl
        refine lv_aload_n hx hb d_D_putBack_45 rfl (lv_at hl 3 rfl) ?_
        refine wg_Division_rest hx hb hC hw (by omega) bw_93 d_D_putBack_46 ?_
        refine wg_Natural_limbs hx hb hC hw (by omega) bw_44 d_D_putBack_49 ?_
        refine lv_iload_n hx hb d_D_putBack_52 rfl (lv_at hl 4 rfl) ?_
        refine lv_iload hx hb d_D_putBack_53 (lv_at hl 1 rfl) ?_
        refine n_iadd hx hb d_D_putBack_55 ?_
        refine lv_lload_n hx hb d_D_putBack_56 rfl (lv_at hl 0 rfl) ?_
        refine lv_ldc2 (v := 268435455) hx hb hC.ow (hC.hts bw_488) d_D_putBack_57 ?_
        refine lv_land hx hb d_D_putBack_60 ?_
        refine ws_limbs hx hb hw (by omega) (by omega) d_D_putBack_61 (fun H locs hw => ?_)
        refine lv_lload_n hx hb d_D_putBack_62 rfl (lv_at hl 0 rfl) ?_
        refine lv_bipush (v := nI 28) hx hb d_D_putBack_63 (by decide +kernel) ?_
        refine lv_lshr hx hb d_D_putBack_65 rfl ?_
        refine lv_lstore_n hx hb d_D_putBack_66 rfl hl (by decide) rfl (fun ls hl => ?_)
        have hl : lv_has ls 6 [(3, .long (t9 >>> ((nI 28).toInt64 &&& 63))), (5, .int (nI i)), (2, .int (nI n)), (0, .ref (wa T (81 + d))), (1, .int (nI fr))] := hl
        refine lv_iinc (v := nI (i + 1)) hx hb d_D_putBack_67 hl (k := 1) rfl (nI_add _ 1) (by decide) rfl (fun ls hl => ?_)
        have hl : lv_has ls 6 [(5, .int (nI (i + 1))), (3, .long (t9 >>> ((nI 28).toInt64 &&& 63))), (2, .int (nI n)), (0, .ref (wa T (81 + d))), (1, .int (nI fr))] := hl
        refine lv_goto (tgt := 13) hx hb d_D_putBack_70 (by decide) ?_
        rw [bx_uu, va_up_self] at hw
        have q := db_step h1 (fD_in X0 i) (fD_in v i) et h2
        exact ih (i + 1) _ _ ls H locs (by omega) (by omega) q.1 (q.2.trans (lm_add2 rfl)) (ts_in h3) (fun j hj => by rw [pk_uLn (by omega)]; exact h4 j (by omega)) hl hw
  exact lp n 0 (F (14 + 3 * d)) 0 ls _ _ (by omega) (by omega) (by decide +kernel) (by rw [lm_ev0, lm_ev0, lm_ev0, lj_0]; simp) (fun j h => absurd h (by omega)) (fun _ _ => rfl) hl hw
end
section
/-! Division: the guess -/
theorem k_N_atG (l : Launch) (T : wT) (F : wFt) (U K : wUt) (I : wIt) (O : wOt) (x a b k : Nat) (hi : x < 34) (hU : U x = nI k) (hk : k ≤ 75) (ha : a < 1073741824) (hb : b < 1073741824) : Met l y_N_at (.code y_N_at c_N_at 2 (some .long) :: bg) ({ frames := 0, cells := 0, slots := 0, locals := 0 } : Room) (mP T F U K I O [.ref (wa T x), .int (nI a - nI b)]) (mQl T (if b ≤ a ∧ a - b < k then F x (a - b) else 0) F U K I O) 0 0 (wA T) := by
  by_cases h : b ≤ a
  · rw [pk_sub h]
    have h1 := k_N_at l T F U K I O x (a - b) k hi hU hk (by omega)
    by_cases h2 : a - b < k
    · rw [if_pos ⟨h, h2⟩]; rw [if_pos h2] at h1; exact h1
    · rw [if_neg (fun q => h2 q.2)]; rw [if_neg h2] at h1; exact h1
  · rw [if_neg (fun q => h q.1)]
    exact k_N_atN l T F U K I O x _ hi (pk_sneg (by omega) (by omega))
theorem gz_init {r w v1 h Q vl ul : Nat} (hr : r = h * Q + ul) (hw : w = v1 * Q + vl) (hul : ul < Q) (hv1 : 0 < v1) : r < (h / v1 + 1) * w := by
  have := kn_c (h := (h : Int)) (v1 := v1) (P := Q) (vl := vl) (ul := ul) (by omega) (by omega) (by omega) (by omega) (by omega)
  rw [hr, hw]
  exact_mod_cast this
theorem gz_down {r w V2 U3 Q vl ul g B : Nat} (hr : r * B = U3 * Q + ul) (hw : w * B = V2 * Q + vl) (hul : ul < Q) (ht : U3 < g * V2) : r < g * w := by
  have := kn_b (g := (g : Int)) (V2 := V2) (P := Q) (vl := vl) (U3 := U3) (ul := ul) (by omega) (by omega) (by omega) (by omega) (by exact_mod_cast ht)
  have h2 : U3 * Q + ul < g * (V2 * Q + vl) := by exact_mod_cast this
  rw [← hr, ← hw, ← Nat.mul_assoc] at h2
  exact Nat.lt_of_mul_lt_mul_right h2
theorem gz_stop {r w V2 U3 Q vl ul g B : Nat} (hB : 0 < B) (hr : r * B = U3 * Q + ul) (hw : w * B = V2 * Q + vl) (hvl : vl < Q) (ht : g * V2 ≤ U3) (hgV : g ≤ V2 + 1) : g * w ≤ r + w := by
  by_cases h0 : g = 0
  · rw [h0, Nat.zero_mul]; omega
  · have := kn_a (g := (g : Int)) (V2 := V2) (P := Q) (vl := vl) (U3 := U3) (ul := ul) (by omega) (by omega) (by omega) (by omega) (by omega) (by exact_mod_cast ht)
    obtain ⟨g', rfl⟩ : ∃ g', g = g' + 1 := ⟨g - 1, by omega⟩
    have e1 : ((g' + 1 : Nat) : Int) - 1 = (g' : Int) := by omega
    rw [e1] at this
    have h2 : g' * (V2 * Q + vl) ≤ U3 * Q + ul := by exact_mod_cast this
    rw [← hr, ← hw, ← Nat.mul_assoc] at h2
    have h3 := Nat.le_of_mul_le_mul_right h2 hB
    rw [Nat.add_mul, Nat.one_mul]; omega
theorem hd_eq {r k : Nat} (h : r / vB ^ k < vB * vB) : r / vB ^ (k + 1) % vB * vB + r / vB ^ k % vB = r / vB ^ k := by
  have e : r / vB ^ (k + 1) = r / vB ^ k / vB := by rw [Nat.pow_succ, Nat.div_div_eq_div_mul]
  rw [e, Nat.mod_eq_of_lt (Nat.div_lt_of_lt_mul h), Nat.mul_comm]
  exact Nat.div_add_mod _ _
theorem sh_dg {v k n : Nat} (hv : v < vB ^ n) : (if 2 ≤ k ∧ k - 2 < n then fD v (k - 2) else 0) = lN (v * vB / vB ^ (k - 1) % vB) := by
  by_cases h : 2 ≤ k
  · obtain ⟨j, rfl⟩ : ∃ j, k = j + 2 := ⟨k - 2, by omega⟩
    have e1 : v * vB / vB ^ (j + 2 - 1) = v / vB ^ j := by
      rw [show j + 2 - 1 = j + 1 by omega, Nat.pow_succ, Nat.mul_div_mul_right _ _ vB_pos]
    rw [e1, show j + 2 - 2 = j by omega]
    by_cases h2 : j < n
    · rw [if_pos ⟨h, h2⟩, fD_lN]
    · rw [if_neg (fun q => h2 q.2), Nat.div_eq_of_lt (Nat.lt_of_lt_of_le hv (vB_le (by omega))), Nat.zero_mod]; rfl
  · rw [if_neg (fun q => h q.1), show k - 1 = 0 by omega, Nat.pow_zero, Nat.div_one, Nat.mul_mod_left]; rfl
theorem sh_two {v k : Nat} : v * vB / vB ^ k = v / vB ^ k * vB + v * vB / vB ^ k % vB := by
  have h1 : v * vB / vB ^ k / vB = v / vB ^ k := by
    rw [Nat.div_div_eq_div_mul, Nat.mul_div_mul_right _ _ vB_pos]
  have := Nat.div_add_mod (v * vB / vB ^ k) vB
  rw [h1, Nat.mul_comm] at this
  omega
theorem gz_all {v r fr n0 : Nat} (hv : v < vB ^ (n0 + 1)) (hvt : vB ^ (n0 + 1) ≤ 2 * v) (hr : r < v * vB ^ fr * vB) : ∃ v1 h1 s2 t3 : Nat, v / vB ^ n0 % vB = v1 ∧ r / vB ^ (fr + n0 + 1) % vB * vB + r / vB ^ (fr + n0) % vB = h1 ∧ v * vB / vB ^ n0 % vB = s2 ∧ r * vB / vB ^ (fr + n0) % vB = t3 ∧ 134217728 ≤ v1 ∧ v1 < 268435456 ∧ h1 < 72057594037927936 ∧ s2 < 268435456 ∧ t3 < 268435456 ∧ r < (min (h1 / v1) 268435455 + 1) * (v * vB ^ fr) ∧ (∀ g, h1 * 268435456 + t3 < g * (v1 * 268435456 + s2) → r < g * (v * vB ^ fr)) ∧ (∀ g, g < 268435456 → g * (v1 * 268435456 + s2) ≤ h1 * 268435456 + t3 → g * (v * vB ^ fr) ≤ r + v * vB ^ fr) := by
  have eB : vB = 268435456 := rfl
  have hP0 : 0 < vB ^ n0 := Nat.pow_pos vB_pos
  have hPf : 0 < vB ^ fr := Nat.pow_pos vB_pos
  have hQ : vB ^ (fr + n0) = vB ^ fr * vB ^ n0 := Nat.pow_add _ _ _
  have hQ0 : 0 < vB ^ (fr + n0) := Nat.pow_pos vB_pos
  have v1lt : v / vB ^ n0 < vB := Nat.div_lt_of_lt_mul (by rw [← Nat.pow_succ]; exact hv)
  have v1ge : 134217728 ≤ v / vB ^ n0 := by
    rw [Nat.le_div_iff_mul_le hP0]
    have e1 : vB ^ (n0 + 1) = vB ^ n0 * 268435456 := Nat.pow_succ ..
    generalize vB ^ n0 = P0 at *
    omega
  have hh : r / vB ^ (fr + n0) < vB * vB := by
    apply Nat.div_lt_of_lt_mul
    have h1 : v * vB ^ fr * vB ≤ vB ^ (n0 + 1) * vB ^ fr * vB := Nat.mul_le_mul_right _ (Nat.mul_le_mul_right _ (Nat.le_of_lt hv))
    have h2 : vB ^ (n0 + 1) * vB ^ fr * vB = vB ^ (fr + n0) * (vB * vB) := by rw [hQ, Nat.pow_succ]; grind
    exact Nat.lt_of_lt_of_le hr (Nat.le_trans h1 (Nat.le_of_eq h2))
  have hhe := hd_eq hh
  have e4 : v / vB ^ n0 % vB = v / vB ^ n0 := Nat.mod_eq_of_lt v1lt
  have s2lt : v * vB / vB ^ n0 % vB < vB := Nat.mod_lt _ vB_pos
  have t3lt : r * vB / vB ^ (fr + n0) % vB < vB := Nat.mod_lt _ vB_pos
  have eV2 : v * vB / vB ^ n0 = v / vB ^ n0 * vB + v * vB / vB ^ n0 % vB := sh_two
  have eU3 : r * vB / vB ^ (fr + n0) = r / vB ^ (fr + n0) * vB + r * vB / vB ^ (fr + n0) % vB := sh_two
  have wr : r * vB = (r / vB ^ (fr + n0) * vB + r * vB / vB ^ (fr + n0) % vB) * vB ^ (fr + n0) + r * vB % vB ^ (fr + n0) := by
    rw [← eU3]; have := Nat.div_add_mod (r * vB) (vB ^ (fr + n0)); rw [Nat.mul_comm] at this; exact this.symm
  have ww : v * vB ^ fr * vB = (v / vB ^ n0 * vB + v * vB / vB ^ n0 % vB) * vB ^ (fr + n0) + v * vB % vB ^ n0 * vB ^ fr := by
    rw [← eV2, hQ]
    have := Nat.div_add_mod (v * vB) (vB ^ n0)
    have h2 : v * vB ^ fr * vB = (v * vB) * vB ^ fr := by grind
    rw [h2]
    conv => lhs; rw [← this]
    grind
  have wl : v * vB % vB ^ n0 * vB ^ fr < vB ^ (fr + n0) := by
    rw [hQ, Nat.mul_comm (vB ^ fr)]; exact Nat.mul_lt_mul_of_pos_right (Nat.mod_lt _ hP0) hPf
  have w0 : v * vB ^ fr = v / vB ^ n0 * vB ^ (fr + n0) + v % vB ^ n0 * vB ^ fr := by
    have := Nat.div_add_mod v (vB ^ n0)
    conv => lhs; rw [← this]
    rw [hQ]; grind
  have r0 : r = r / vB ^ (fr + n0) * vB ^ (fr + n0) + r % vB ^ (fr + n0) := by have := Nat.div_add_mod r (vB ^ (fr + n0)); rw [Nat.mul_comm] at this; exact this.symm
  have hq := gz_init r0 w0 (Nat.mod_lt _ hQ0) (Nat.lt_of_lt_of_le (by decide) v1ge)
  refine ⟨v / vB ^ n0, r / vB ^ (fr + n0), _, _, e4, hhe, rfl, rfl, v1ge, v1lt, hh, s2lt, t3lt, ?_, fun g hg => ?_, fun g hg1 hg2 => ?_⟩
  · by_cases hm : r / vB ^ (fr + n0) / (v / vB ^ n0) ≤ 268435455
    · rw [Nat.min_eq_left hm]; exact hq
    · rw [Nat.min_eq_right (by omega)]
      have h9 : (268435455 + 1) * (v * vB ^ fr) = v * vB ^ fr * vB := Nat.mul_comm ..
      rw [h9]; exact hr
  · exact gz_down wr ww (Nat.mod_lt _ hQ0) hg
  · refine gz_stop vB_pos wr ww wl hg2 ?_
    show g ≤ v / vB ^ n0 * 268435456 + v * vB / vB ^ n0 % vB + 1
    generalize v * vB / vB ^ n0 % vB = s2
    generalize v / vB ^ n0 = v1 at v1ge
    omega
theorem lNi_lt {a b : Nat} (ha : a < 9223372036854775808) (hb : b < 9223372036854775808) : (lN a).toInt < (lN b).toInt ↔ a < b := by rw [lj_lN ha, lj_lN hb]; exact Int.ofNat_lt
theorem lNi_le {a b : Nat} (ha : a < 9223372036854775808) (hb : b < 9223372036854775808) : (lN a).toInt ≤ (lN b).toInt ↔ a ≤ b := by rw [lj_lN ha, lj_lN hb]; exact Int.ofNat_le
theorem gq_c {gg v1 s2 lf h1 t3 M : Nat} (h3 : lf + gg * v1 = h1) (h7 : gg * s2 ≤ lf * M + t3) : gg * (v1 * M + s2) ≤ h1 * M + t3 := by
  rw [Nat.mul_add, ← Nat.mul_assoc]
  subst h3
  rw [Nat.add_mul lf]
  generalize gg * v1 * M = Y at *
  generalize gg * s2 = C at *
  generalize lf * M = X at *
  omega
theorem gq_d {gg v1 s2 lf h1 t3 M : Nat} (h3 : lf + gg * v1 = h1) (h7 : lf * M + t3 < gg * s2) : h1 * M + t3 < gg * (v1 * M + s2) := by
  rw [Nat.mul_add, ← Nat.mul_assoc]
  subst h3
  rw [Nat.add_mul lf]
  generalize gg * v1 * M = Y at *
  generalize gg * s2 = C at *
  generalize lf * M = X at *
  omega
theorem gq_i {i lf v1 : Nat} (h : i * 134217728 ≤ lf) (h2 : 134217728 ≤ v1) : (i + 1) * 134217728 ≤ lf + v1 := by
  rw [Nat.add_mul, Nat.one_mul]; exact Nat.add_le_add h h2
theorem gq_l {gg v1 lf h1 : Nat} (hg : 0 < gg) (h3 : lf + gg * v1 = h1) : lf + v1 + (gg - 1) * v1 = h1 := by
  obtain ⟨g9, rfl⟩ : ∃ g9, gg = g9 + 1 := ⟨gg - 1, by omega⟩
  rw [Nat.add_mul, Nat.one_mul] at h3
  rw [show g9 + 1 - 1 = g9 from rfl]
  generalize g9 * v1 = A at *
  omega
theorem lN_minM (a : Nat) (ha : a < 9223372036854775808) : (if (268435455 : Int64) < lN a then (268435455 : Int64) else lN a) = lN (min a 268435455) := by
  have e : (268435455 : Int64) = lN 268435455 := rfl
  rw [e]
  split
  · rename_i h; rw [pk_lLT (by omega) (by omega)] at h; congr 1; omega
  · rename_i h; rw [pk_lLT (by omega) (by omega)] at h; congr 1; omega

set_option maxRecDepth 100000 in
set_option maxHeartbeats 4000000 in
theorem k_D_guessLimb (l : Launch) (T : wT) (F : wFt) (U K : wUt) (I : wIt) (O : wOt) (d fr n v r kr : Nat) (hd3 : d < 3) (hn1 : 1 ≤ n) (hfr : fr + n ≤ 74) (hU : U (15 + 3 * d) = nI n) (hv : v < vB ^ n) (hvt : vB ^ n ≤ 2 * v) (hL : ∀ j, F (15 + 3 * d) j = fD v j) (hUr : U (14 + 3 * d) = nI kr) (hkr : kr ≤ 75) (hrk : r < vB ^ kr) (hR : ∀ j, F (14 + 3 * d) j = fD r j) (hr : r < v * vB ^ fr * vB) : Met l y_D_guessLimb (.code y_D_guessLimb c_D_guessLimb 15 (some .long) :: bg) ({ frames := 1, cells := 0, slots := 0, locals := 23 } : Room) (mP T F U K I O [.ref (wa T (81 + d)), .int (nI (fr + n))]) (mQlp T (fun x => ∃ gg : Nat, x = lN gg ∧ gg < 268435456 ∧ r < (gg + 1) * (v * vB ^ fr) ∧ gg * (v * vB ^ fr) ≤ r + v * vB ^ fr) F U K I O) 0 0 (wA T) := by
  refine wM_lp (by decide) (Nat.le_of_ble_eq_true rfl) ?_
  intro p e R s m args below meth c Q ls hx hb hC hRf hRl hret hl hw
  have hRf : 1 ≤ R.frames := hRf
  have hRl : 23 ≤ R.locals := hRl
  have hl : lv_has ls 15 [(0, .ref (wa T (81 + d))), (1, .int (nI (fr + n)))] := hl
  obtain ⟨n0, rfl⟩ : ∃ n0, n = n0 + 1 := ⟨n - 1, by omega⟩
  obtain ⟨v1, h1, s2, t3, ev1, eh1, es2, et3, v1ge, v1lt, hh, s2lt, t3lt, hgi, hdn, hst⟩ := gz_all hv hvt hr
  have ld2 : (if 2 ≤ n0 + 1 ∧ n0 + 1 - 2 < n0 + 1 then F (15 + 3 * d) (n0 + 1 - 2) else 0) = lN s2 := by rw [hL, sh_dg (k := n0 + 1) hv, show n0 + 1 - 1 = n0 by omega, es2]
  have ld3 : (if 2 ≤ fr + (n0 + 1) ∧ fr + (n0 + 1) - 2 < kr then F (14 + 3 * d) (fr + (n0 + 1) - 2) else 0) = lN t3 := by rw [hR, sh_dg (k := fr + (n0 + 1)) hrk, show fr + (n0 + 1) - 1 = fr + n0 by omega, et3]
  have ld1 : F (15 + 3 * d) (n0 + 1 - 1) = lN v1 := by rw [hL, fD_lN]; exact congrArg lN ev1
  have ldh : F (14 + 3 * d) (fr + (n0 + 1)) * (268435456 : Int64) + F (14 + 3 * d) (fr + (n0 + 1) - 1) = lN h1 := by
    have e5 : F (14 + 3 * d) (fr + (n0 + 1)) = lN (r / vB ^ (fr + n0 + 1) % vB) := by rw [hR]; rfl
    have e6 : F (14 + 3 * d) (fr + (n0 + 1) - 1) = lN (r / vB ^ (fr + n0) % vB) := by rw [hR]; rfl
    have e7 : (268435456 : Int64) = lN vB := rfl
    rw [e5, e6, e7, lN_mul, lN_add, eh1]
  clear hv hvt hr hrk ev1 eh1 es2 et3
  generalize v * vB ^ fr = w9 at hgi hdn hst hret
  have hl : lv_has ls 15 [(0, .ref (wa T (81 + d))), (1, .int (nI (fr + (n0 + 1))))] := hl
  refine lv_aload_n hx hb d_D_guessLimb_0 rfl (lv_at hl 0 rfl) ?_
  refine wg_Division_lifted hx hb hC hw (by omega) bw_97 d_D_guessLimb_1 ?_
  refine wg_Natural_limbs hx hb hC hw (by omega) bw_44 d_D_guessLimb_4 ?_
  refine lv_aload_n hx hb d_D_guessLimb_7 rfl (lv_at hl 0 rfl) ?_
  refine wg_Division_lifted hx hb hC hw (by omega) bw_97 d_D_guessLimb_8 ?_
  refine wg_Natural_used hx hb hC hw (by omega) bw_46 d_D_guessLimb_11 ?_
  refine sw_i (y := nI (n0 + 1)) (hU) ?_
  refine lv_iconst (v := nI 1) hx hb d_D_guessLimb_14 (by decide +kernel) ?_
  refine n_isub hx hb d_D_guessLimb_15 (by omega) ?_
  refine wl_limbs hx hb hw (by omega) (by omega) d_D_guessLimb_16 ?_
  refine sw_l (y := lN v1) (ld1) ?_
  refine lv_lstore_n hx hb d_D_guessLimb_17 rfl hl (by decide) rfl (fun ls hl => ?_)
  have hl : lv_has ls 15 [(2, .long (lN v1)), (0, .ref (wa T (81 + d))), (1, .int (nI (fr + (n0 + 1))))] := hl
  refine lv_aload_n hx hb d_D_guessLimb_18 rfl (lv_at hl 1 rfl) ?_
  refine wg_Division_lifted hx hb hC hw (by omega) bw_97 d_D_guessLimb_19 ?_
  refine lv_aload_n hx hb d_D_guessLimb_22 rfl (lv_at hl 1 rfl) ?_
  refine wg_Division_lifted hx hb hC hw (by omega) bw_97 d_D_guessLimb_23 ?_
  refine wg_Natural_used hx hb hC hw (by omega) bw_46 d_D_guessLimb_26 ?_
  refine sw_i (y := nI (n0 + 1)) (hU) ?_
  refine lv_iconst (v := nI 2) hx hb d_D_guessLimb_29 (by decide +kernel) ?_
  refine lv_isub hx hb d_D_guessLimb_30 ?_
  refine wcV_l (As := [.int (nI (n0 + 1) - nI 2)]) hx hb hC hw (k_N_atG l T F U K I O (15 + 3 * d) (n0 + 1) 2 (n0 + 1) (by omega) hU (by omega) (by omega) (by omega)) lk_D_83 rfl rfl ⟨by show 0 + 1 ≤ R.frames; omega, by show 8 + (2 + 11) + 0 ≤ R.locals; omega⟩ (by omega) (we_Natural (by omega)) rfl rfl hl.1 rfl (Nat.le_of_ble_eq_true rfl) ⟨Nat.zero_le _, Nat.zero_le _⟩ d_D_guessLimb_31 (fun H locs hw => ?_)
  refine sw_l (y := lN s2) (ld2) ?_
  refine lv_lstore hx hb d_D_guessLimb_34 hl (by decide) rfl (fun ls hl => ?_)
  have hl : lv_has ls 15 [(4, .long (lN s2)), (2, .long (lN v1)), (0, .ref (wa T (81 + d))), (1, .int (nI (fr + (n0 + 1))))] := hl
  refine lv_aload_n hx hb d_D_guessLimb_36 rfl (lv_at hl 2 rfl) ?_
  refine wg_Division_rest hx hb hC hw (by omega) bw_93 d_D_guessLimb_37 ?_
  refine wg_Natural_limbs hx hb hC hw (by omega) bw_44 d_D_guessLimb_40 ?_
  refine lv_iload_n hx hb d_D_guessLimb_43 rfl (lv_at hl 3 rfl) ?_
  refine wl_limbs hx hb hw (by omega) (by omega) d_D_guessLimb_44 ?_
  refine lv_ldc2 (v := 268435456) hx hb hC.ow (hC.hts bw_487) d_D_guessLimb_45 ?_
  refine lv_lmul hx hb d_D_guessLimb_48 ?_
  refine lv_aload_n hx hb d_D_guessLimb_49 rfl (lv_at hl 2 rfl) ?_
  refine wg_Division_rest hx hb hC hw (by omega) bw_93 d_D_guessLimb_50 ?_
  refine wg_Natural_limbs hx hb hC hw (by omega) bw_44 d_D_guessLimb_53 ?_
  refine lv_iload_n hx hb d_D_guessLimb_56 rfl (lv_at hl 3 rfl) ?_
  refine lv_iconst (v := nI 1) hx hb d_D_guessLimb_57 (by decide +kernel) ?_
  refine n_isub hx hb d_D_guessLimb_58 (by omega) ?_
  refine wl_limbs hx hb hw (by omega) (by omega) d_D_guessLimb_59 ?_
  refine lv_ladd hx hb d_D_guessLimb_60 ?_
  refine sw_l (y := lN h1) (ldh) ?_
  refine lv_lstore hx hb d_D_guessLimb_61 hl (by decide) rfl (fun ls hl => ?_)
  have hl : lv_has ls 15 [(6, .long (lN h1)), (4, .long (lN s2)), (2, .long (lN v1)), (0, .ref (wa T (81 + d))), (1, .int (nI (fr + (n0 + 1))))] := hl
  refine lv_aload_n hx hb d_D_guessLimb_63 rfl (lv_at hl 3 rfl) ?_
  refine wg_Division_rest hx hb hC hw (by omega) bw_93 d_D_guessLimb_64 ?_
  refine lv_iload_n hx hb d_D_guessLimb_67 rfl (lv_at hl 4 rfl) ?_
  refine lv_iconst (v := nI 2) hx hb d_D_guessLimb_68 (by decide +kernel) ?_
  refine lv_isub hx hb d_D_guessLimb_69 ?_
  refine wcV_l (As := [.int (nI (fr + (n0 + 1)) - nI 2)]) hx hb hC hw (k_N_atG l T F U K I O (14 + 3 * d) (fr + (n0 + 1)) 2 kr (by omega) hUr hkr (by omega) (by omega)) lk_D_83 rfl rfl ⟨by show 0 + 1 ≤ R.frames; omega, by show 8 + (2 + 11) + 0 ≤ R.locals; omega⟩ (by omega) (we_Natural (by omega)) rfl rfl hl.1 rfl (Nat.le_of_ble_eq_true rfl) ⟨Nat.zero_le _, Nat.zero_le _⟩ d_D_guessLimb_70 (fun H locs hw => ?_)
  refine sw_l (y := lN t3) (ld3) ?_
  refine lv_lstore hx hb d_D_guessLimb_73 hl (by decide) rfl (fun ls hl => ?_)
  have hl : lv_has ls 15 [(8, .long (lN t3)), (6, .long (lN h1)), (4, .long (lN s2)), (2, .long (lN v1)), (0, .ref (wa T (81 + d))), (1, .int (nI (fr + (n0 + 1))))] := hl
  refine lv_lload hx hb d_D_guessLimb_75 (lv_at hl 1 rfl) ?_
  refine lv_lload_n hx hb d_D_guessLimb_77 rfl (lv_at hl 3 rfl) ?_
  refine lv_ldiv hx hb d_D_guessLimb_78 (lN_ne0 (by omega) (by omega)) ?_
  refine sw_l (y := lN (h1 / v1)) (pk_lDiv (by omega) (by omega) (by omega)) ?_
  have hq0 : h1 / v1 ≤ h1 := Nat.div_le_self _ _
  have hq1 : h1 / v1 * v1 ≤ h1 := Nat.div_mul_le_self _ _
  refine lv_ldc2 (v := 268435455) hx hb hC.ow (hC.hts bw_488) d_D_guessLimb_79 ?_
  refine wm_minJ hx hb hC ml_489 hl.1 (by omega) (by show 0 + 15 ≤ R.locals; omega) ⟨Nat.zero_le _, Nat.zero_le _⟩ d_D_guessLimb_82 ?_
  refine sw_l (y := lN (min (h1 / v1) 268435455)) (lN_minM _ (by omega)) ?_
  have hg0 : min (h1 / v1) 268435455 * v1 ≤ h1 := Nat.le_trans (Nat.mul_le_mul_right _ (Nat.min_le_left _ _)) hq1
  have hgl : min (h1 / v1) 268435455 < 268435456 := by omega
  generalize hgg : min (h1 / v1) 268435455 = g0 at hg0 hgi hgl
  clear hq0 hq1 hgg
  refine lv_lstore hx hb d_D_guessLimb_85 hl (by decide) rfl (fun ls hl => ?_)
  have hl : lv_has ls 15 [(10, .long (lN g0)), (8, .long (lN t3)), (6, .long (lN h1)), (4, .long (lN s2)), (2, .long (lN v1)), (0, .ref (wa T (81 + d))), (1, .int (nI (fr + (n0 + 1))))] := hl
  refine lv_lload hx hb d_D_guessLimb_87 (lv_at hl 2 rfl) ?_
  refine lv_lload hx hb d_D_guessLimb_89 (lv_at hl 0 rfl) ?_
  refine lv_lload_n hx hb d_D_guessLimb_91 rfl (lv_at hl 4 rfl) ?_
  refine lv_lmul hx hb d_D_guessLimb_92 ?_
  refine lv_lsub hx hb d_D_guessLimb_93 ?_
  refine sw_l (y := lN (h1 - g0 * v1)) (by rw [lN_mul, lN_sub hg0]) ?_
  refine lv_lstore hx hb d_D_guessLimb_94 hl (by decide) rfl (fun ls hl => ?_)
  have hl : lv_has ls 15 [(12, .long (lN (h1 - g0 * v1))), (10, .long (lN g0)), (8, .long (lN t3)), (6, .long (lN h1)), (4, .long (lN s2)), (2, .long (lN v1)), (0, .ref (wa T (81 + d))), (1, .int (nI (fr + (n0 + 1))))] := hl
  refine lv_iconst (v := nI 0) hx hb d_D_guessLimb_96 (by decide +kernel) ?_
  refine lv_istore hx hb d_D_guessLimb_97 hl (by decide) rfl (fun ls hl => ?_)
  have hl : lv_has ls 15 [(14, .int (nI 0)), (12, .long (lN (h1 - g0 * v1))), (10, .long (lN g0)), (8, .long (lN t3)), (6, .long (lN h1)), (4, .long (lN s2)), (2, .long (lN v1)), (0, .ref (wa T (81 + d))), (1, .int (nI (fr + (n0 + 1))))] := hl
  have fin : ∀ (i gg lf : Nat) (ls : Array Slot) (H : Heap) (locs : List Loc), gg < 268435456 → r < (gg + 1) * w9 → gg * (v1 * 268435456 + s2) ≤ h1 * 268435456 + t3 → lv_has ls 15 [(14, .int (nI i)), (12, .long (lN lf)), (10, .long (lN gg)), (8, .long (lN t3)), (6, .long (lN h1)), (4, .long (lN s2)), (2, .long (lN v1)), (0, .ref (wa T (81 + d))), (1, .int (nI (fr + (n0 + 1))))] → wH T F U K I O (wA T) s s.heap H locs → W p l e R s m args below meth c H locs 0 0 Q (F0 m 150 ls []) := by
    intro i gg lf ls H locs hg1 hg2 hg3 hl hw
    refine lv_lload hx hb d_D_guessLimb_150 (lv_at hl 2 rfl) ?_
    exact hret _ _ _ _ _ ⟨gg, rfl, hg1, hg2, hst gg hg1 hg3⟩ hw d_D_guessLimb_152
  have big : ∀ gg lf : Nat, gg < 268435456 → lf + gg * v1 = h1 → 268435456 ≤ lf → gg * (v1 * 268435456 + s2) ≤ h1 * 268435456 + t3 := fun gg lf a1 a2 a3 => by
    have h2 : gg * s2 ≤ 268435456 * 268435456 := Nat.mul_le_mul (by omega) (by omega)
    have h3 : gg * (v1 * 268435456 + s2) = gg * v1 * 268435456 + gg * s2 := by grind
    omega
  have lp : ∀ (z9 i : Nat) (gg : Nat) (lf : Nat) (ls : Array Slot) (H : Heap) (locs : List Loc), 2 - i = z9 → i ≤ 2 → (gg < 268435456) → (r < (gg + 1) * w9) → (lf + gg * v1 = h1) → (i * 134217728 ≤ lf) →  lv_has ls 15 [(14, .int (nI i)), (12, .long (lN lf)), (10, .long (lN gg)), (8, .long (lN t3)), (6, .long (lN h1)), (4, .long (lN s2)), (2, .long (lN v1)), (0, .ref (wa T (81 + d))), (1, .int (nI (fr + (n0 + 1))))] → wH T F U K I O (wA T) s s.heap H locs → W p l e R s m args below meth c H locs 0 0 Q (F0 m 99 ls []) := by
    intro z9
    induction z9 with
    | zero =>
      intro i gg lf ls H locs hn hle h11 h2 h3 h4 hl hw
      refine lv_iload hx hb d_D_guessLimb_99 (lv_at hl 0 rfl) ?_
      refine lv_iconst (v := nI 2) hx hb d_D_guessLimb_101 (by decide +kernel) ?_
      refine n_icmp_ge (tgt := 150) hx hb d_D_guessLimb_102 (by decide) (by omega) (by omega) (fun h0 => ?_) (fun h0 => ?_)
      · have e9 : 2 = i := by omega
        exact fin i gg lf ls H locs h11 h2 (big gg lf h11 h3 (by omega)) hl hw
      · exact absurd h0 (by omega)
    | succ z9 ih =>
      intro i gg lf ls H locs hn hle h11 h2 h3 h4 hl hw
      refine lv_iload hx hb d_D_guessLimb_99 (lv_at hl 0 rfl) ?_
      refine lv_iconst (v := nI 2) hx hb d_D_guessLimb_101 (by decide +kernel) ?_
      refine n_icmp_ge (tgt := 150) hx hb d_D_guessLimb_102 (by decide) (by omega) (by omega) (fun h0 => ?_) (fun h0 => ?_)
      · exact absurd h0 (by omega)
      · have hgs : gg * s2 ≤ 268435456 * 268435456 := Nat.mul_le_mul (by omega) (by omega)
        have b0 : lf < 9223372036854775808 := by omega
        have b1 : gg * s2 < 9223372036854775808 := by omega
        refine lv_lload hx hb d_D_guessLimb_105 (lv_at hl 1 rfl) ?_
        refine lv_ldc2 (v := 268435456) hx hb hC.ow (hC.hts bw_487) d_D_guessLimb_107 ?_
        refine lc_ge (tgt := 150) hx hb d_D_guessLimb_110 d_D_guessLimb_111 (by decide) (fun h8 => ?_) (fun h8 => ?_)
        · replace h8 : 268435456 ≤ lf := (lNi_le (a := 268435456) (b := lf) (by decide) b0).mp h8
          exact fin i gg lf ls H locs h11 h2 (big gg lf h11 h3 h8) hl hw
        · replace h8 : lf < 268435456 := (lNi_lt (a := lf) (b := 268435456) b0 (by decide)).mp h8
          have b2 : lf * 268435456 + t3 < 9223372036854775808 := by omega
          refine lv_lload hx hb d_D_guessLimb_114 (lv_at hl 2 rfl) ?_
          refine lv_lload hx hb d_D_guessLimb_116 (lv_at hl 5 rfl) ?_
          refine lv_lmul hx hb d_D_guessLimb_118 ?_
          refine sw_l (y := lN (gg * s2)) (lN_mul _ _) ?_
          refine lv_lload hx hb d_D_guessLimb_119 (lv_at hl 1 rfl) ?_
          refine lv_ldc2 (v := 268435456) hx hb hC.ow (hC.hts bw_487) d_D_guessLimb_121 ?_
          refine lv_lmul hx hb d_D_guessLimb_124 ?_
          refine lv_lload hx hb d_D_guessLimb_125 (lv_at hl 3 rfl) ?_
          refine lv_ladd hx hb d_D_guessLimb_127 ?_
          refine sw_l (y := lN (lf * 268435456 + t3)) (by rw [show (268435456 : Int64) = lN 268435456 from rfl, lN_mul, lN_add]) ?_
          refine lc_le (tgt := 150) hx hb d_D_guessLimb_128 d_D_guessLimb_129 (by decide) (fun h7 => ?_) (fun h7 => ?_)
          · replace h7 : gg * s2 ≤ lf * 268435456 + t3 := (lNi_le b1 b2).mp h7
            exact fin i gg lf ls H locs h11 h2 (gq_c h3 h7) hl hw
          · replace h7 : lf * 268435456 + t3 < gg * s2 := (lNi_lt b2 b1).mp h7
            have hg0 : 0 < gg := by apply Nat.pos_of_ne_zero; intro q; subst q; rw [Nat.zero_mul] at h7; exact absurd h7 (Nat.not_lt_zero _)
            have k1 := gq_d h3 h7
            have k2 := hdn gg k1
            have k3 := gq_l hg0 h3
            have k4 := gq_i h4 v1ge
            clear k1 h7
            refine lv_lload hx hb d_D_guessLimb_132 (lv_at hl 2 rfl) ?_
            refine lv_lconst (v := 1) hx hb d_D_guessLimb_134 (by decide +kernel) ?_
            refine lv_lsub hx hb d_D_guessLimb_135 ?_
            refine sw_l (y := lN (gg - 1)) (lN_sub (b := 1) hg0) ?_
            refine lv_lstore hx hb d_D_guessLimb_136 hl (by decide) rfl (fun ls hl => ?_)
            have hl : lv_has ls 15 [(10, .long (lN (gg - 1))), (14, .int (nI i)), (12, .long (lN lf)), (8, .long (lN t3)), (6, .long (lN h1)), (4, .long (lN s2)), (2, .long (lN v1)), (0, .ref (wa T (81 + d))), (1, .int (nI (fr + (n0 + 1))))] := hl
            refine lv_lload hx hb d_D_guessLimb_138 (lv_at hl 2 rfl) ?_
            refine lv_lload_n hx hb d_D_guessLimb_140 rfl (lv_at hl 6 rfl) ?_
            refine lv_ladd hx hb d_D_guessLimb_141 ?_
            refine sw_l (y := lN (lf + v1)) (lN_add _ _) ?_
            refine lv_lstore hx hb d_D_guessLimb_142 hl (by decide) rfl (fun ls hl => ?_)
            have hl : lv_has ls 15 [(12, .long (lN (lf + v1))), (10, .long (lN (gg - 1))), (14, .int (nI i)), (8, .long (lN t3)), (6, .long (lN h1)), (4, .long (lN s2)), (2, .long (lN v1)), (0, .ref (wa T (81 + d))), (1, .int (nI (fr + (n0 + 1))))] := hl
            refine lv_iinc (v := nI (i + 1)) hx hb d_D_guessLimb_144 hl (k := 2) rfl (nI_add _ 1) (by decide) rfl (fun ls hl => ?_)
            have hl : lv_has ls 15 [(14, .int (nI (i + 1))), (12, .long (lN (lf + v1))), (10, .long (lN (gg - 1))), (8, .long (lN t3)), (6, .long (lN h1)), (4, .long (lN s2)), (2, .long (lN v1)), (0, .ref (wa T (81 + d))), (1, .int (nI (fr + (n0 + 1))))] := hl
            refine lv_goto (tgt := 99) hx hb d_D_guessLimb_147 (by decide) ?_
            exact ih (i + 1) (gg - 1) (lf + v1) ls H locs (by omega) (by omega) (by omega) (by rw [show gg - 1 + 1 = gg by omega]; exact k2) k3 k4 hl hw
  exact lp 2 0 g0 (h1 - g0 * v1) ls _ _ rfl (by decide) hgl hgi (Nat.sub_add_cancel hg0) (by rw [Nat.zero_mul]; exact Nat.zero_le _) hl hw
end
section
/-! Division: one limb of the quotient -/
theorem dg_add {a b fr : Nat} (ha : a < vB ^ fr) (j : Nat) : (a + vB ^ fr * b) / vB ^ j % vB = if j < fr then a / vB ^ j % vB else b / vB ^ (j - fr) % vB := by
  split
  · rename_i h
    have e1 : vB ^ fr * b = vB ^ j * (vB * (vB ^ (fr - j - 1) * b)) := by
      rw [← Nat.mul_assoc, ← Nat.mul_assoc, ← Nat.pow_succ, ← Nat.pow_add, show j.succ + (fr - j - 1) = fr by omega]
    rw [e1, Nat.add_mul_div_left _ _ (Nat.pow_pos vB_pos), Nat.add_mul_mod_self_left]
  · rename_i h
    have e1 : vB ^ j = vB ^ fr * vB ^ (j - fr) := by rw [← Nat.pow_add, show fr + (j - fr) = j by omega]
    rw [e1, ← Nat.div_div_eq_div_mul, Nat.add_mul_div_left _ _ (Nat.pow_pos vB_pos), Nat.div_eq_of_lt ha, Nat.zero_add]
theorem ta_eq {r v fr n : Nat} (hr : r < v * vB ^ fr * vB) (hv : v < vB ^ n) (hv0 : 0 < v) (j : Nat) : ta (fD r) fr n (r / vB ^ fr % v) 0 j = fD (r % (v * vB ^ fr)) j := by
  have hp : 0 < vB ^ fr := Nat.pow_pos vB_pos
  have hm := Nat.mod_lt r hp
  have e0 : r % (v * vB ^ fr) = r % vB ^ fr + vB ^ fr * (r / vB ^ fr % v) := by rw [Nat.mul_comm, Nat.mod_mul]
  have e1 : r = r % vB ^ fr + vB ^ fr * (r / vB ^ fr) := (Nat.mod_add_div r (vB ^ fr)).symm
  have hu : r / vB ^ fr % v < vB ^ n := Nat.lt_trans (Nat.mod_lt _ hv0) hv
  have hu2 : r / vB ^ fr < vB ^ (n + 1) := by
    apply Nat.div_lt_of_lt_mul
    have h1 : v * vB ^ fr * vB ≤ vB ^ n * vB ^ fr * vB := Nat.mul_le_mul_right _ (Nat.mul_le_mul_right _ (Nat.le_of_lt hv))
    have h2 : vB ^ n * vB ^ fr * vB = vB ^ fr * vB ^ (n + 1) := by rw [Nat.pow_succ]; grind
    exact Nat.lt_of_lt_of_le hr (Nat.le_trans h1 (Nat.le_of_eq h2))
  unfold ta
  rw [fD_lN (r % (v * vB ^ fr)), e0, dg_add hm]
  by_cases c1 : fr ≤ j ∧ j < fr + n
  · rw [if_pos c1, if_neg (by omega), fD_lN]
  · rw [if_neg c1]
    by_cases c2 : j = fr + n
    · rw [if_pos c2, if_neg (by omega), Nat.div_eq_of_lt (by rw [show j - fr = n by omega]; exact hu), Nat.zero_mod]; rfl
    · rw [if_neg c2, fD_lN]
      conv => lhs; rw [e1]
      rw [dg_add hm]
      split
      · rfl
      · have h3 := vB_le (show n + 1 ≤ j - fr by omega)
        have h4 := vB_le (show n ≤ n + 1 by omega)
        rw [Nat.div_eq_of_lt (by omega), Nat.div_eq_of_lt (by omega)]
theorem ta_ta (f : Nat → Int64) (fr n X X' : Nat) (t t' : Int64) : ta (ta f fr n X t) fr n X' t' = ta f fr n X' t' := funext fun j => by
  unfold ta
  by_cases c1 : fr ≤ j ∧ j < fr + n
  · simp only [if_pos c1]
  · by_cases c2 : j = fr + n
    · simp only [if_neg c1, if_pos c2]
    · simp only [if_neg c1, if_neg c2]
theorem wnd_ev {r fr m : Nat} (h : r / vB ^ fr < vB ^ m) : lm_ev b28 (fun j => nd (fD r) (fr + j)) m = ((r / vB ^ fr : Nat) : Int) := by
  have e1 : lm_ev b28 (fun j => nd (fD r) (fr + j)) m = lm_ev b28 (nd (fD (r / vB ^ fr))) m := lm_congr (fun j _ => by
    show nd (fD r) (fr + j) = _
    rw [fD_nd, fD_nd]
    show ((r / vB ^ (fr + j) % vB : Nat) : Int) = ((r / vB ^ fr / vB ^ j % vB : Nat) : Int)
    rw [Nat.div_div_eq_div_mul, ← Nat.pow_add])
  rw [e1, fD_ev, Nat.mod_eq_of_lt h]
/-- the guess is the limb, or one above it -/
theorem nl_case {r v fr gg : Nat} (hv0 : 0 < v) (g2 : r < (gg + 1) * (v * vB ^ fr)) (g3 : gg * (v * vB ^ fr) ≤ r + v * vB ^ fr) : gg = r / (v * vB ^ fr) ∨ gg = r / (v * vB ^ fr) + 1 := by
  have hw : 0 < v * vB ^ fr := Nat.mul_pos hv0 (Nat.pow_pos vB_pos)
  generalize v * vB ^ fr = w at *
  have h1 : r / w < gg + 1 := Nat.div_lt_of_lt_mul (by rw [Nat.mul_comm]; exact g2)
  have h2 : gg ≤ (r + w) / w := (Nat.le_div_iff_mul_le hw).mpr g3
  rw [Nat.add_div_right _ hw] at h2
  omega

set_option maxRecDepth 100000 in
set_option maxHeartbeats 4000000 in
theorem k_D_nextLimb (l : Launch) (T : wT) (F : wFt) (U K : wUt) (I : wIt) (O : wOt) (d fr n v r kr : Nat) (hd3 : d < 3) (hn1 : 1 ≤ n) (hfr : fr + n ≤ 74) (hU : U (15 + 3 * d) = nI n) (hv : v < vB ^ n) (hvt : vB ^ n ≤ 2 * v) (hL : F (15 + 3 * d) = fD v) (hUr : U (14 + 3 * d) = nI kr) (hkr : kr ≤ 75) (hrk : r < vB ^ kr) (hR : F (14 + 3 * d) = fD r) (hr : r < v * vB ^ fr * vB) : Met l y_D_nextLimb (.code y_D_nextLimb c_D_nextLimb 4 (some .long) :: bg) ({ frames := 2, cells := 0, slots := 0, locals := 57 } : Room) (mP T F U K I O [.ref (wa T (81 + d)), .int (nI fr)]) (mQl T (lN (r / (v * vB ^ fr))) (va_up F (14 + 3 * d) (fD (r % (v * vB ^ fr)))) U K I O) 0 0 (wA T) := by
  refine wM_l (by decide) (Nat.le_of_ble_eq_true rfl) ?_
  intro p e R s m args below meth c Q ls hx hb hC hRf hRl hret hl hw
  have hRf : 2 ≤ R.frames := hRf
  have hRl : 57 ≤ R.locals := hRl
  have hl : lv_has ls 4 [(0, .ref (wa T (81 + d))), (1, .int (nI fr))] := hl
  have hv0 : 0 < v := by have := Nat.pow_pos (n := n) vB_pos; omega
  have hu : r / vB ^ fr < v * vB := Nat.div_lt_of_lt_mul (by rw [← Nat.mul_assoc, Nat.mul_comm (vB ^ fr)]; exact hr)
  have hu2 : r / vB ^ fr < vB ^ (n + 1) := by rw [Nat.pow_succ]; exact Nat.lt_of_lt_of_le hu (Nat.mul_le_mul_right _ (Nat.le_of_lt hv))
  have hD := wnd_ev hu2
  have hq : r / (v * vB ^ fr) = r / vB ^ fr / v := by rw [Nat.div_div_eq_div_mul, Nat.mul_comm]
  have hxv := Nat.mod_lt (r / vB ^ fr) hv0
  have hda := Nat.div_add_mod (r / vB ^ fr) v
  have hBn : b28 ^ n = ((vB ^ n : Nat) : Int) := by rw [← vB_c, Int.natCast_pow]
  refine lv_aload_n hx hb d_D_nextLimb_0 rfl (lv_at hl 0 rfl) ?_
  refine lv_iload_n hx hb d_D_nextLimb_1 rfl (lv_at hl 1 rfl) ?_
  refine lv_aload_n hx hb d_D_nextLimb_2 rfl (lv_at hl 0 rfl) ?_
  refine wg_Division_lifted hx hb hC hw (by omega) bw_97 d_D_nextLimb_3 ?_
  refine wg_Natural_used hx hb hC hw (by omega) bw_46 d_D_nextLimb_6 ?_
  refine sw_i (y := nI n) (hU) ?_
  refine n_iadd hx hb d_D_nextLimb_9 ?_
  refine wcV_lp (As := [.int (nI (fr + n))]) hx hb hC hw (k_D_guessLimb l T F U K I O d fr n v r kr hd3 hn1 hfr hU hv hvt (fun j => by rw [hL]) hUr hkr hrk (fun j => by rw [hR]) hr) lk_D_73 rfl rfl ⟨by show 1 + 1 ≤ R.frames; omega, by show 8 + (15 + 11) + 23 ≤ R.locals; omega⟩ (by omega) (we_Division hd3) rfl rfl hl.1 rfl (Nat.le_of_ble_eq_true rfl) ⟨Nat.zero_le _, Nat.zero_le _⟩ d_D_nextLimb_10 (fun g9 H locs hPg hw => ?_)
  obtain ⟨gg, rfl, g1, g2, g3⟩ := hPg
  have hcase := nl_case hv0 g2 g3
  rw [hq] at hcase
  clear g2 g3
  generalize hqq : r / vB ^ fr / v = q at hcase hq hda
  rw [hq] at hret
  have hxx : r / vB ^ fr % v < vB ^ n := Nat.lt_trans hxv hv
  refine lv_lstore_n hx hb d_D_nextLimb_13 rfl hl (by decide) rfl (fun ls hl => ?_)
  have hl : lv_has ls 4 [(2, .long (lN gg)), (0, .ref (wa T (81 + d))), (1, .int (nI fr))] := hl
  refine lv_aload_n hx hb d_D_nextLimb_14 rfl (lv_at hl 1 rfl) ?_
  refine lv_iload_n hx hb d_D_nextLimb_15 rfl (lv_at hl 2 rfl) ?_
  refine lv_lload_n hx hb d_D_nextLimb_16 rfl (lv_at hl 0 rfl) ?_
  rcases hcase with hc | hc
  · subst hc
    refine wcV_z (As := [.int (nI fr), .long (lN gg)]) hx hb hC hw (k_D_takeAway l T F U K I O d fr n v (r / vB ^ fr % v) 0 hd3 (by omega) hfr hU hv (fun j => by rw [hL]) gg (r / vB ^ fr) g1 (fun j _ => by rw [hR]; exact fD_in _ _) (by rw [hR]; exact hD) hxx (by
        have e1 : ((r / vB ^ fr : Nat) : Int) = (v : Int) * (gg : Int) + ((r / vB ^ fr % v : Nat) : Int) := by exact_mod_cast hda.symm
        rw [e1, lj_0]; grind)) lk_D_76 rfl rfl ⟨by show 0 + 1 ≤ R.frames; omega, by show 8 + (10 + 11) + 0 ≤ R.locals; omega⟩ (by omega) (we_Division (by omega)) rfl rfl hl.1 rfl (Nat.le_of_ble_eq_true rfl) ⟨Nat.zero_le _, Nat.zero_le _⟩ d_D_nextLimb_17 (fun H locs hw => ?_)
    refine sw_i (y := nI 1) (by rw [if_pos (by decide +kernel)]; rfl) ?_
    refine n_if_eq (tgt := 25) hx hb d_D_nextLimb_20 (by decide) (by omega) (fun h => ?_) (fun h => ?_)
    · exact absurd h (by decide)
    · refine lv_lload_n hx hb d_D_nextLimb_23 rfl (lv_at hl 0 rfl) ?_
      have hw := wH.canon (g := fD (r % (v * vB ^ fr))) (by omega) hw (fun j _ => by rw [hR]; exact ta_eq hr hv hv0 j)
      exact hret _ _ _ _ hw d_D_nextLimb_24
  · subst hc
    have e1 : ((r / vB ^ fr : Nat) : Int) = (v : Int) * (q : Int) + ((r / vB ^ fr % v : Nat) : Int) := by exact_mod_cast hda.symm
    have em : (-1 : Int64).toInt = -1 := by decide +kernel
    have e2 : ((vB ^ n + r / vB ^ fr % v - v : Nat) : Int) = ((vB ^ n : Nat) : Int) + ((r / vB ^ fr % v : Nat) : Int) - (v : Int) := by omega
    have hX0 : vB ^ n + r / vB ^ fr % v - v < vB ^ n := by omega
    refine wcV_z (As := [.int (nI fr), .long (lN (q + 1))]) hx hb hC hw (k_D_takeAway l T F U K I O d fr n v (vB ^ n + r / vB ^ fr % v - v) (-1) hd3 (by omega) hfr hU hv (fun j => by rw [hL]) (q + 1) (r / vB ^ fr) g1 (fun j _ => by rw [hR]; exact fD_in _ _) (by rw [hR]; exact hD) hX0 (by
        rw [e1, e2, em, hBn]; push_cast; grind)) lk_D_76 rfl rfl ⟨by show 0 + 1 ≤ R.frames; omega, by show 8 + (10 + 11) + 0 ≤ R.locals; omega⟩ (by omega) (we_Division (by omega)) rfl rfl hl.1 rfl (Nat.le_of_ble_eq_true rfl) ⟨Nat.zero_le _, Nat.zero_le _⟩ d_D_nextLimb_17 (fun H locs hw => ?_)
    refine sw_i (y := nI 0) (by rw [if_neg (by decide +kernel)]; rfl) ?_
    refine n_if_eq (tgt := 25) hx hb d_D_nextLimb_20 (by decide) (by omega) (fun h => ?_) (fun h => ?_)
    · refine lv_aload_n hx hb d_D_nextLimb_25 rfl (lv_at hl 1 rfl) ?_
      refine lv_iload_n hx hb d_D_nextLimb_26 rfl (lv_at hl 2 rfl) ?_
      refine wcV_v (As := [.int (nI fr)]) hx hb hC hw (k_D_putBack l T (va_up F (14 + 3 * d) (ta (F (14 + 3 * d)) fr n (vB ^ n + r / vB ^ fr % v - v) (-1))) U K I O d fr n v (r / vB ^ fr % v) 0 hd3 (by omega) hfr hU hv (fun j => by rw [va_up_ne _ _ (by omega), hL]) (vB ^ n + r / vB ^ fr % v - v) (-1) hX0 (fun j hj => by rw [va_up_self]; unfold ta; rw [if_pos (by omega), show fr + j - fr = j by omega]) (by rw [va_up_self]; unfold ta; rw [if_neg (by omega), if_pos rfl]) (by rw [em]; decide) hxx (by
          rw [e2, em, hBn, lj_0]; omega)) lk_D_80 rfl rfl ⟨by show 0 + 1 ≤ R.frames; omega, by show 8 + (6 + 11) + 0 ≤ R.locals; omega⟩ (by omega) (we_Division (by omega)) rfl rfl hl.1 rfl (Nat.le_of_ble_eq_true rfl) ⟨Nat.zero_le _, Nat.zero_le _⟩ d_D_nextLimb_27 (fun H locs hw => ?_)
      rw [bx_uu, va_up_self, ta_ta] at hw
      have hw := wH.canon (g := fD (r % (v * vB ^ fr))) (by omega) hw (fun j _ => by rw [hR]; exact ta_eq hr hv hv0 j)
      refine lv_lload_n hx hb d_D_nextLimb_30 rfl (lv_at hl 0 rfl) ?_
      refine lv_lconst (v := 1) hx hb d_D_nextLimb_31 (by decide +kernel) ?_
      refine lv_lsub hx hb d_D_nextLimb_32 ?_
      refine sw_l (y := lN q) (lN_sub (b := 1) (by omega)) ?_
      exact hret _ _ _ _ hw d_D_nextLimb_33
    · exact absurd h (by decide)
end
section
/-! Division: run -/
def dvL (V : Nat → Nat) (d a b : Nat) : Nat := if V b = 0 ∨ V a < V b then V (15 + 3 * d) else V b * 2 ^ (28 * kD (V b) - bl (V b))
def dvV (V : Nat → Nat) (d a b : Nat) : Nat → Nat := va_up (va_up (va_up V (15 + 3 * d) (dvL V d a b)) (13 + 3 * d) (V a / V b)) (14 + 3 * d) (V a % V b)
theorem hV_up {V : Nat → Nat} {x v : Nat} (hV : ∀ n, n < 34 → V n < vLim) (hv : v < vLim) : ∀ n, n < 34 → va_up V x v n < vLim := fun n hn => by
  by_cases e : n = x
  · rw [e, va_up_self]; exact hv
  · rw [va_up_ne _ _ e]; exact hV n hn
theorem va_drop {α : Type} (f : Nat → α) {r q : Nat} (h : q ≠ r) (x y z : α) : va_up (va_up (va_up f r x) q y) r z = va_up (va_up f q y) r z := funext fun j => by
  by_cases e : j = r
  · rw [e, va_up_self, va_up_self]
  · rw [va_up_ne _ _ e, va_up_ne _ _ e]
    by_cases e2 : j = q
    · rw [e2, va_up_self, va_up_self]
    · rw [va_up_ne _ _ e2, va_up_ne _ _ e2, va_up_ne _ _ e]
theorem va_comm {α : Type} (f : Nat → α) {r q : Nat} (h : q ≠ r) (y z : α) : va_up (va_up f q y) r z = va_up (va_up f r z) q y := funext fun j => by
  by_cases e : j = r
  · rw [e, va_up_self, va_up_ne _ _ (fun k => h k.symm), va_up_self]
  · rw [va_up_ne _ _ e]
    by_cases e2 : j = q
    · rw [e2, va_up_self, va_up_self]
    · rw [va_up_ne _ _ e2, va_up_ne _ _ e2, va_up_ne _ _ e]
theorem sp_lt {v : Nat} (h : v < vLim) (hk : 0 < kD v) : 28 * kD v - bl v < 28 ∧ bl v ≤ 28 * kD v := by
  obtain ⟨t1, t2, t3, t4⟩ := bl_top h hk
  have h2 := bl_pos (v := v / vB ^ (kD v - 1)) (lim_31 (by omega)) t2
  have h3 := bl_kD h
  omega
/-- lifted by its spare bits a number fills its highest limb -/
theorem sp_norm {v : Nat} (h : v < vLim) (hk : 0 < kD v) : v * 2 ^ (28 * kD v - bl v) < vB ^ kD v ∧ vB ^ kD v ≤ 2 * (v * 2 ^ (28 * kD v - bl v)) := by
  have h1 := (sp_lt h hk).2
  have h2 := bl_lt h
  have h3 : 0 < bl v := by
    apply Nat.pos_of_ne_zero; intro q; rw [q] at h2; exact kDp hk (by omega)
  have h4 := bl_ge h3
  have e1 : vB ^ kD v = 2 ^ bl v * 2 ^ (28 * kD v - bl v) := by rw [vB_two, ← Nat.pow_add, show bl v + (28 * kD v - bl v) = 28 * kD v by omega]
  have hp : 0 < 2 ^ (28 * kD v - bl v) := Nat.two_pow_pos _
  rw [e1]
  constructor
  · exact Nat.mul_lt_mul_of_pos_right h2 hp
  · rw [← Nat.mul_assoc]
    apply Nat.mul_le_mul_right
    have e2 : 2 ^ bl v = 2 * 2 ^ (bl v - 1) := by rw [← Nat.pow_succ', show (bl v - 1).succ = bl v by omega]
    omega
theorem kD_norm {v n : Nat} (h1 : v < vB ^ n) (h2 : vB ^ n ≤ 2 * v) (hn : 1 ≤ n) (hn2 : n ≤ 75) : kD v = n := by
  refine kD_eq h1 (fun _ => ?_) hn2
  have e : vB ^ n = vB ^ (n - 1) * 268435456 := by
    conv => lhs; rw [show n = n - 1 + 1 by omega]
    exact Nat.pow_succ ..
  generalize vB ^ (n - 1) = P at *
  omega
theorem kD_mo {a b : Nat} (ha : a < vLim) (h : b ≤ a) : kD b ≤ kD a := kD_mono (Nat.lt_of_le_of_lt h (kD_lt ha))
theorem dq_lt {A v k n : Nat} (hA : A < vB ^ k) (hv : vB ^ n ≤ 2 * v) (hn : 1 ≤ n) (hnk : n ≤ k) : A / v < vB ^ (k - n + 1) := by
  have e : vB ^ n = vB ^ (n - 1) * 268435456 := by
    conv => lhs; rw [show n = n - 1 + 1 by omega]
    exact Nat.pow_succ ..
  have h1 : vB ^ (n - 1) ≤ v := by
    generalize vB ^ (n - 1) = P at *
    omega
  apply Nat.div_lt_of_lt_mul
  have h2 : vB ^ k = vB ^ (n - 1) * vB ^ (k - n + 1) := by rw [← Nat.pow_add, show n - 1 + (k - n + 1) = k by omega]
  rw [h2] at hA
  exact Nat.lt_of_lt_of_le hA (Nat.mul_le_mul_right _ h1)
theorem dg_quot (A v q : Nat) : A % (v * vB ^ (q + 1)) / (v * vB ^ q) = A / v / vB ^ q % vB := by
  rw [Nat.pow_succ, ← Nat.mul_assoc, Nat.mod_mul_right_div_self, Nat.div_div_eq_div_mul]
theorem dg_rest (A v q : Nat) : A % (v * vB ^ (q + 1)) % (v * vB ^ q) = A % (v * vB ^ q) := by
  apply Nat.mod_mod_of_dvd
  rw [Nat.pow_succ, ← Nat.mul_assoc]
  exact ⟨vB, rfl⟩

set_option maxRecDepth 100000 in
set_option maxHeartbeats 4000000 in
theorem k_D_run (l : Launch) (T : wT) (V : Nat → Nat) (K : wUt) (I : wIt) (O : wOt) (d a b : Nat) (hd3 : d < 3) (ha : a < 34) (hb9 : b < 34) (hao : a < 13 + 3 * d ∨ 15 + 3 * d < a) (hbo : b < 13 + 3 * d ∨ 15 + 3 * d < b) (hA : V a * 2 ^ (28 * kD (V b) - bl (V b)) < vB ^ 74) (hV : ∀ n, n < 34 → V n < vLim) : Met l y_D_run (.code y_D_run c_D_run 6 none :: bg) ({ frames := 3, cells := 0, slots := 0, locals := 80 } : Room) (mP T (fF V) (fU V) K I O [.ref (wa T (81 + d)), .ref (wa T a), .ref (wa T b)]) (mQv T (fF (dvV V d a b)) (fU (dvV V d a b)) K I O) 0 0 (wA T) := by
  refine wM_v (by decide) (Nat.le_of_ble_eq_true rfl) ?_
  intro p e R s m args below meth c Q ls hx hb hC hRf hRl hret hl hw
  have hRf : 3 ≤ R.frames := hRf
  have hRl : 80 ≤ R.locals := hRl
  have hl : lv_has ls 6 [(0, .ref (wa T (81 + d))), (1, .ref (wa T a)), (2, .ref (wa T b))] := hl
  have hVa : V a < vB ^ 74 := Nat.lt_of_le_of_lt (Nat.le_mul_of_pos_right _ (Nat.two_pow_pos _)) hA
  have hka : kD (V a) ≤ 74 := kD_mono hVa
  have hlim : vB ^ 74 ≤ vLim := vB_le (by decide)
  refine lv_aload_n hx hb d_D_run_0 rfl (lv_at hl 0 rfl) ?_
  refine wg_Division_quotient hx hb hC hw (by omega) bw_90 d_D_run_1 ?_
  refine wcV_v (As := []) hx hb hC hw (k_N_clear l T V K I O (13 + 3 * d) (by omega) hV) lk_D_24 rfl rfl ⟨by show 1 + 1 ≤ R.frames; omega, by show 8 + (1 + 11) + 22 ≤ R.locals; omega⟩ (by omega) (we_Natural (by omega)) rfl rfl hl.1 rfl (Nat.le_of_ble_eq_true rfl) ⟨Nat.zero_le _, Nat.zero_le _⟩ d_D_run_4 (fun H locs hw => ?_)
  generalize hV1 : va_up V (13 + 3 * d) 0 = V1 at hw
  have hV1L : ∀ n, n < 34 → V1 n < vLim := by rw [← hV1]; exact hV_up hV (by decide +kernel)
  have v1a : V1 a = V a := by rw [← hV1]; exact va_up_ne _ _ (by omega)
  have v1b : V1 b = V b := by rw [← hV1]; exact va_up_ne _ _ (by omega)
  refine lv_aload_n hx hb d_D_run_7 rfl (lv_at hl 2 rfl) ?_
  refine wcV_z (As := []) hx hb hC hw (k_N_isZero l T V1 K I O b hb9 hV1L) lk_D_27 rfl rfl ⟨by show 0 + 1 ≤ R.frames; omega, by show 8 + (1 + 11) + 0 ≤ R.locals; omega⟩ (by omega) (we_Natural (by omega)) rfl rfl hl.1 rfl (Nat.le_of_ble_eq_true rfl) ⟨Nat.zero_le _, Nat.zero_le _⟩ d_D_run_8 (fun H locs hw => ?_)
  have early : (V b = 0 ∨ V a < V b) → ∀ (ls : Array Slot) (H : Heap) (locs : List Loc), lv_has ls 6 [(0, .ref (wa T (81 + d))), (1, .ref (wa T a)), (2, .ref (wa T b))] → wH T (fF V1) (fU V1) K I O (wA T) s s.heap H locs → W p l e R s m args below meth c H locs 0 0 Q (F0 m 22 ls []) := by
    intro hc ls H locs hl hw
    refine lv_aload_n hx hb d_D_run_22 rfl (lv_at hl 0 rfl) ?_
    refine wg_Division_rest hx hb hC hw (by omega) bw_93 d_D_run_23 ?_
    refine lv_aload_n hx hb d_D_run_26 rfl (lv_at hl 1 rfl) ?_
    refine wcV_v (As := [.ref (wa T a)]) hx hb hC hw (k_N_take l T V1 K I O (14 + 3 * d) a (by omega) ha hV1L) lk_D_35 rfl rfl ⟨by show 1 + 1 ≤ R.frames; omega, by show 8 + (4 + 11) + 22 ≤ R.locals; omega⟩ (by omega) (we_Natural (by omega)) rfl rfl hl.1 rfl (Nat.le_of_ble_eq_true rfl) ⟨Nat.zero_le _, Nat.zero_le _⟩ d_D_run_27 (fun H locs hw => ?_)
    have e0 : V a / V b = 0 ∧ V a % V b = V a := by
      rcases hc with h | h
      · rw [h]; exact ⟨Nat.div_zero _, Nat.mod_zero _⟩
      · exact ⟨Nat.div_eq_of_lt h, Nat.mod_eq_of_lt h⟩
    have e1 : va_up V1 (14 + 3 * d) (V1 a) = dvV V d a b := by unfold dvV dvL; rw [if_pos hc, va_upx, e0.1, e0.2, hV1, v1a]
    rw [e1] at hw
    exact hret _ _ _ _ hw d_D_run_30
  by_cases hb0 : V b = 0
  · refine sw_i (y := nI 1) (by rw [v1b, if_pos hb0]; rfl) ?_
    refine n_if_ne (tgt := 22) hx hb d_D_run_11 (by decide) (by omega) (fun h => ?_) (fun h => ?_)
    · exact early (Or.inl hb0) ls H locs hl hw
    · exact absurd h (by decide)
  · refine sw_i (y := nI 0) (by rw [v1b, if_neg hb0]; rfl) ?_
    refine n_if_ne (tgt := 22) hx hb d_D_run_11 (by decide) (by omega) (fun h => ?_) (fun h => ?_)
    · exact absurd h (by decide)
    · refine lv_aload_n hx hb d_D_run_14 rfl (lv_at hl 1 rfl) ?_
      refine lv_aload_n hx hb d_D_run_15 rfl (lv_at hl 2 rfl) ?_
      refine wcV_i (As := [.ref (wa T b)]) hx hb hC hw (k_N_order l T V1 K I O a b ha hb9 hV1L) lk_D_31 rfl rfl ⟨by show 0 + 1 ≤ R.frames; omega, by show 8 + (3 + 11) + 0 ≤ R.locals; omega⟩ (by omega) (we_Natural (by omega)) rfl rfl hl.1 rfl (Nat.le_of_ble_eq_true rfl) ⟨Nat.zero_le _, Nat.zero_le _⟩ d_D_run_16 (fun H locs hw => ?_)
      by_cases hab : V a < V b
      · refine sw_i (y := -1) (by rw [v1a, v1b, if_pos hab]) ?_
        refine lv_if_ge (tgt := 31) hx hb d_D_run_19 (by decide) (fun h9 => ?_) (fun h9 => ?_)
        · exact absurd h9 (by decide +kernel)
        · exact early (Or.inr hab) ls H locs hl hw
      · refine sw_i (y := if V a = V b then 0 else 1) (by rw [v1a, v1b, if_neg hab]) ?_
        refine lv_if_ge (tgt := 31) hx hb d_D_run_19 (by decide) (fun h9 => ?_) (fun h9 => ?_)
        · clear early
          have hkb : 0 < kD (V b) := by apply Nat.pos_of_ne_zero; intro q; exact hb0 (kD0 (hV b hb9) q)
          obtain ⟨nb1, nb2⟩ := sp_norm (hV b hb9) hkb
          have hs28 := (sp_lt (hV b hb9) hkb).1
          have hbl : V b ≤ V a := by omega
          have hkb2 : kD (V b) ≤ kD (V a) := kD_mo (hV a ha) hbl
          refine lv_aload_n hx hb d_D_run_31 rfl (lv_at hl 2 rfl) ?_
          refine wcV_i (As := []) hx hb hC hw (k_N_spareBits l T V1 K I O b hb9 hV1L) lk_D_39 rfl rfl ⟨by show 2 + 1 ≤ R.frames; omega, by show 8 + (1 + 11) + 43 ≤ R.locals; omega⟩ (by omega) (we_Natural (by omega)) rfl rfl hl.1 rfl (Nat.le_of_ble_eq_true rfl) ⟨Nat.zero_le _, Nat.zero_le _⟩ d_D_run_32 (fun H locs hw => ?_)
          rw [v1b]
          have hdvL : dvL V d a b = V b * 2 ^ (28 * kD (V b) - bl (V b)) := by unfold dvL; rw [if_neg (by omega)]
          generalize hsg : 28 * kD (V b) - bl (V b) = sp at hA nb1 nb2 hs28 hdvL
          have hs0 : sp / 28 = 0 := Nat.div_eq_of_lt hs28
          have hlv : V b * 2 ^ sp < vLim := Nat.lt_of_lt_of_le nb1 (vB_le (kD_le _))
          have hla : V a * 2 ^ sp < vLim := Nat.lt_of_lt_of_le hA hlim
          refine lv_istore_n hx hb d_D_run_35 rfl hl (by decide) rfl (fun ls hl => ?_)
          have hl : lv_has ls 6 [(3, .int (nI sp)), (0, .ref (wa T (81 + d))), (1, .ref (wa T a)), (2, .ref (wa T b))] := hl
          refine lv_aload_n hx hb d_D_run_36 rfl (lv_at hl 1 rfl) ?_
          refine wg_Division_lifted hx hb hC hw (by omega) bw_97 d_D_run_37 ?_
          refine lv_aload_n hx hb d_D_run_40 rfl (lv_at hl 3 rfl) ?_
          refine lv_iload_n hx hb d_D_run_41 rfl (lv_at hl 0 rfl) ?_
          refine wcV_v (As := [.ref (wa T b), .int (nI sp)]) hx hb hC hw (k_N_takeRaised l T V1 K I O (15 + 3 * d) b sp (by omega) hb9 (by omega) (by omega) (by rw [v1b, hs0]; omega) hV1L) lk_D_43 rfl rfl ⟨by show 1 + 1 ≤ R.frames; omega, by show 8 + (11 + 11) + 22 ≤ R.locals; omega⟩ (by omega) (we_Natural (by omega)) rfl rfl hl.1 rfl (Nat.le_of_ble_eq_true rfl) ⟨Nat.zero_le _, Nat.zero_le _⟩ d_D_run_42 (fun H locs hw => ?_)
          rw [v1b] at hw
          generalize hV3 : va_up V1 (15 + 3 * d) (V b * 2 ^ sp) = V3 at hw
          have hV3L : ∀ n, n < 34 → V3 n < vLim := by rw [← hV3]; exact hV_up hV1L hlv
          have v3a : V3 a = V a := by rw [← hV3, va_up_ne _ _ (by omega)]; exact v1a
          refine lv_aload_n hx hb d_D_run_45 rfl (lv_at hl 1 rfl) ?_
          refine wg_Division_rest hx hb hC hw (by omega) bw_93 d_D_run_46 ?_
          refine lv_aload_n hx hb d_D_run_49 rfl (lv_at hl 2 rfl) ?_
          refine lv_iload_n hx hb d_D_run_50 rfl (lv_at hl 0 rfl) ?_
          refine wcV_v (As := [.ref (wa T a), .int (nI sp)]) hx hb hC hw (k_N_takeRaised l T V3 K I O (14 + 3 * d) a sp (by omega) ha (by omega) (by omega) (by rw [v3a, hs0]; omega) hV3L) lk_D_43 rfl rfl ⟨by show 1 + 1 ≤ R.frames; omega, by show 8 + (11 + 11) + 22 ≤ R.locals; omega⟩ (by omega) (we_Natural (by omega)) rfl rfl hl.1 rfl (Nat.le_of_ble_eq_true rfl) ⟨Nat.zero_le _, Nat.zero_le _⟩ d_D_run_51 (fun H locs hw => ?_)
          rw [v3a] at hw
          generalize hV4 : va_up V3 (14 + 3 * d) (V a * 2 ^ sp) = V4 at hw
          have hV4L : ∀ n, n < 34 → V4 n < vLim := by rw [← hV4]; exact hV_up hV3L hla
          have v4r : V4 (14 + 3 * d) = V a * 2 ^ sp := by rw [← hV4, va_up_self]
          have v4l : V4 (15 + 3 * d) = V b * 2 ^ sp := by rw [← hV4, va_up_ne _ _ (by omega), ← hV3, va_up_self]
          have v4q : V4 (13 + 3 * d) = 0 := by rw [← hV4, va_up_ne _ _ (by omega), ← hV3, va_up_ne _ _ (by omega), ← hV1, va_up_self]
          have qe : V a * 2 ^ sp / (V b * 2 ^ sp) = V a / V b := Nat.mul_div_mul_right _ _ (Nat.two_pow_pos _)
          have re : V a * 2 ^ sp % (V b * 2 ^ sp) / 2 ^ sp = V a % V b := by rw [Nat.mul_mod_mul_right, Nat.mul_div_cancel _ (Nat.two_pow_pos _)]
          have hge : V b * 2 ^ sp ≤ V a * 2 ^ sp := Nat.mul_le_mul_right _ hbl
          generalize V a * 2 ^ sp = A9 at hA hla v4r qe re hge hV4
          generalize V b * 2 ^ sp = v9 at nb1 nb2 hlv v4l qe re hge hV3 hdvL
          generalize hnn : kD (V b) = nn at nb1 nb2 hkb hkb2
          have hn9 : kD v9 = nn := kD_norm nb1 nb2 hkb (by rw [← hnn]; exact kD_le _)
          have hk74 : kD A9 ≤ 74 := kD_mono hA
          have hnk : nn ≤ kD A9 := by rw [← hn9]; exact kD_mo hla hge
          have hAk : A9 < vB ^ kD A9 := kD_lt hla
          have ur : fU V4 (14 + 3 * d) = nI (kD A9) := by unfold fU; rw [v4r]; rfl
          have ul : fU V4 (15 + 3 * d) = nI nn := by unfold fU; rw [v4l]; unfold uD; rw [hn9]
          have uq : fU V4 (13 + 3 * d) = nI (kD 0) := by unfold fU; rw [v4q]; rfl
          refine lv_aload_n hx hb d_D_run_54 rfl (lv_at hl 1 rfl) ?_
          refine wg_Division_rest hx hb hC hw (by omega) bw_93 d_D_run_55 ?_
          refine wg_Natural_used hx hb hC hw (by omega) bw_46 d_D_run_58 ?_
          refine sw_i (y := nI (kD A9)) (ur) ?_
          refine lv_aload_n hx hb d_D_run_61 rfl (lv_at hl 1 rfl) ?_
          refine wg_Division_lifted hx hb hC hw (by omega) bw_97 d_D_run_62 ?_
          refine wg_Natural_used hx hb hC hw (by omega) bw_46 d_D_run_65 ?_
          refine sw_i (y := nI nn) (ul) ?_
          refine n_isub hx hb d_D_run_68 (by omega) ?_
          refine lv_istore hx hb d_D_run_69 hl (by decide) rfl (fun ls hl => ?_)
          have hl : lv_has ls 6 [(4, .int (nI ((kD A9) - nn))), (3, .int (nI sp)), (0, .ref (wa T (81 + d))), (1, .ref (wa T a)), (2, .ref (wa T b))] := hl
          refine lv_iload hx hb d_D_run_71 (lv_at hl 0 rfl) ?_
          refine sw_i (y := (nI (kD A9 - nn + 1) - 1)) ((nI_pred _).symm) ?_
          refine lv_istore hx hb d_D_run_73 hl (by decide) rfl (fun ls hl => ?_)
          have hl : lv_has ls 6 [(5, .int (nI (kD A9 - nn + 1) - 1)), (4, .int (nI ((kD A9) - nn))), (3, .int (nI sp)), (0, .ref (wa T (81 + d))), (1, .ref (wa T a)), (2, .ref (wa T b))] := hl
          have hv0 : 0 < v9 := by have := Nat.pow_pos (n := nn) vB_pos; omega
          have hAv : A9 < v9 * vB ^ (kD A9 - nn + 1) := by have h1 := dq_lt hAk nb2 hkb hnk; have h2 := Nat.lt_mul_div_succ A9 hv0; exact Nat.lt_of_lt_of_le h2 (Nat.mul_le_mul_left _ h1)
          have f0 : fF V4 = va_up (va_up (fF V4) (14 + 3 * d) (fD A9)) (13 + 3 * d) (fD 0) := by rw [fF_up, fF_up, ← v4r, va_upx, ← v4q, va_upx]
          rw [f0] at hw
          have lp : ∀ (q : Nat) (rr : Nat) (qf : Nat → Int64) (ls : Array Slot) (H : Heap) (locs : List Loc), (rr = A9 % (v9 * vB ^ q)) → (∀ j, q ≤ j → j < 75 → qf j = fD (A9 / v9) j) → (q ≤ kD A9 - nn + 1) →  lv_has ls 6 [(5, .int (nI q - 1)), (4, .int (nI (kD A9 - nn))), (3, .int (nI sp)), (0, .ref (wa T (81 + d))), (1, .ref (wa T a)), (2, .ref (wa T b))] → wH T (va_up (va_up (fF V4) (14 + 3 * d) (fD rr)) (13 + 3 * d) qf) (fU V4) K I O (wA T) s s.heap H locs → W p l e R s m args below meth c H locs 0 0 Q (F0 m 75 ls []) := by
            intro q
            induction q with
            | zero =>
              intro rr qf ls H locs h1 h2 h3 hl hw
              refine lv_iload hx hb d_D_run_75 (lv_at hl 0 rfl) ?_
              refine d_if_lt (tgt := 102) hx hb d_D_run_77 (by decide) (by omega) (fun h0 => ?_) (fun h0 => ?_)
              · rw [Nat.pow_zero, Nat.mul_one] at h1
                have hrl : rr < vB ^ kD A9 := by rw [h1]; exact Nat.lt_of_le_of_lt (Nat.mod_le _ _) hAk
                refine lv_aload_n hx hb d_D_run_102 rfl (lv_at hl 3 rfl) ?_
                refine wg_Division_quotient hx hb hC hw (by omega) bw_90 d_D_run_103 ?_
                refine lv_iload hx hb d_D_run_106 (lv_at hl 1 rfl) ?_
                refine lv_iconst (v := nI 1) hx hb d_D_run_108 (by decide +kernel) ?_
                refine n_iadd hx hb d_D_run_109 ?_
                refine wcV_v (As := [.int (nI ((kD A9 - nn) + 1))]) hx hb hC hw (k_N_settle l T (va_up (va_up (fF V4) (14 + 3 * d) (fD rr)) (13 + 3 * d) qf) (fU V4) K I O (13 + 3 * d) (kD 0) (kD A9 - nn + 1) (A9 / v9) (by omega) uq (kD_le _) (by omega) (fun j hj => by rw [va_up_self]; unfold nd; rw [h2 j (by omega) (by omega)]; exact fD_in _ _) (fun j a1 a2 a3 => by rw [va_up_self, h2 j (by omega) a3, fD_lN, Nat.div_eq_of_lt (Nat.lt_of_lt_of_le (dq_lt hAk nb2 hkb hnk) (vB_le a1)), Nat.zero_mod]; rfl) (by rw [va_up_self]; exact fD_evL (dq_lt hAk nb2 hkb hnk) (fun j hj => h2 j (by omega) (by omega)))) lk_D_59 rfl rfl ⟨by show 0 + 1 ≤ R.frames; omega, by show 8 + (3 + 11) + 0 ≤ R.locals; omega⟩ (by omega) (we_Natural (by omega)) rfl rfl hl.1 rfl (Nat.le_of_ble_eq_true rfl) ⟨Nat.zero_le _, Nat.zero_le _⟩ d_D_run_110 (fun H locs hw => ?_)
                rw [bx_uu] at hw
                have ur2 : va_up (fU V4) (13 + 3 * d) (uD (A9 / v9)) (14 + 3 * d) = nI (kD A9) := by rw [va_up_ne _ _ (by omega)]; exact ur
                refine lv_aload_n hx hb d_D_run_113 rfl (lv_at hl 3 rfl) ?_
                refine wg_Division_rest hx hb hC hw (by omega) bw_93 d_D_run_114 ?_
                refine lv_aload_n hx hb d_D_run_117 rfl (lv_at hl 3 rfl) ?_
                refine wg_Division_rest hx hb hC hw (by omega) bw_93 d_D_run_118 ?_
                refine wg_Natural_used hx hb hC hw (by omega) bw_46 d_D_run_121 ?_
                refine sw_i (y := nI (kD A9)) (ur2) ?_
                refine wcV_v (As := [.int (nI (kD A9))]) hx hb hC hw (k_N_settle l T (va_up (va_up (fF V4) (14 + 3 * d) (fD rr)) (13 + 3 * d) (fD (A9 / v9))) (va_up (fU V4) (13 + 3 * d) (uD (A9 / v9))) K I O (14 + 3 * d) (kD A9) (kD A9) rr (by omega) ur2 (by omega) (by omega) (fun j hj => by rw [va_up_ne _ _ (by omega), va_up_self]; exact fD_in _ _) (fun j a1 a2 a3 => by rw [va_up_ne _ _ (by omega), va_up_self, fD_lN, Nat.div_eq_of_lt (Nat.lt_of_lt_of_le hrl (vB_le a1)), Nat.zero_mod]; rfl) (by rw [va_up_ne _ _ (by omega), va_up_self]; exact fD_evL hrl (fun _ _ => rfl))) lk_D_59 rfl rfl ⟨by show 0 + 1 ≤ R.frames; omega, by show 8 + (3 + 11) + 0 ≤ R.locals; omega⟩ (by omega) (we_Natural (by omega)) rfl rfl hl.1 rfl (Nat.le_of_ble_eq_true rfl) ⟨Nat.zero_le _, Nat.zero_le _⟩ d_D_run_124 (fun H locs hw => ?_)
                rw [va_drop _ (by omega), fF_up, fF_up, fU_up, fU_up] at hw
                have hq9 : A9 / v9 < vLim := Nat.lt_of_le_of_lt (Nat.div_le_self _ _) hla
                have hr9 : rr < vLim := Nat.lt_of_lt_of_le hrl (vB_le (kD_le _))
                refine lv_aload_n hx hb d_D_run_127 rfl (lv_at hl 3 rfl) ?_
                refine wg_Division_rest hx hb hC hw (by omega) bw_93 d_D_run_128 ?_
                refine lv_aload_n hx hb d_D_run_131 rfl (lv_at hl 3 rfl) ?_
                refine wg_Division_rest hx hb hC hw (by omega) bw_93 d_D_run_132 ?_
                refine lv_iload_n hx hb d_D_run_135 rfl (lv_at hl 2 rfl) ?_
                refine wcV_v (As := [.ref (wa T (14 + 3 * d)), .int (nI sp)]) hx hb hC hw (k_N_takeLowered l T (va_up (va_up V4 (13 + 3 * d) (A9 / v9)) (14 + 3 * d) rr) K I O (14 + 3 * d) (14 + 3 * d) sp (by omega) (by omega) (by omega) (hV_up (hV_up hV4L hq9) hr9)) lk_D_63 rfl rfl ⟨by show 1 + 1 ≤ R.frames; omega, by show 8 + (11 + 11) + 22 ≤ R.locals; omega⟩ (by omega) (we_Natural (by omega)) rfl rfl hl.1 rfl (Nat.le_of_ble_eq_true rfl) ⟨Nat.zero_le _, Nat.zero_le _⟩ d_D_run_136 (fun H locs hw => ?_)
                rw [va_up_self, bx_uu, h1, re, qe] at hw
                have e9 : va_up (va_up V4 (13 + 3 * d) (V a / V b)) (14 + 3 * d) (V a % V b) = dvV V d a b := by
                  unfold dvV; rw [hdvL, ← hV4, va_drop _ (by omega), ← hV3, ← hV1, va_comm V (by omega) 0 v9, bx_uu]
                rw [e9] at hw
                exact hret _ _ _ _ hw d_D_run_139
              · exact absurd h0 (by omega)
            | succ q ih =>
              intro rr qf ls H locs h1 h2 h3 hl hw
              rw [nI_pred] at hl
              have hl : lv_has ls 6 [(5, .int (nI q)), (4, .int (nI (kD A9 - nn))), (3, .int (nI sp)), (0, .ref (wa T (81 + d))), (1, .ref (wa T a)), (2, .ref (wa T b))] := hl
              refine lv_iload hx hb d_D_run_75 (lv_at hl 0 rfl) ?_
              refine n_if_lt hx hb d_D_run_77 (by decide) (by omega) ?_
              have hmod : A9 % (v9 * vB ^ (q + 1)) < v9 * vB ^ q * vB := by rw [Nat.mul_assoc, ← Nat.pow_succ]; exact Nat.mod_lt _ (Nat.mul_pos hv0 (Nat.pow_pos vB_pos))
              subst h1
              generalize hrg : A9 % (v9 * vB ^ (q + 1)) = rr at hw hmod
              have hrl : rr < vB ^ kD A9 := by rw [← hrg]; exact Nat.lt_of_le_of_lt (Nat.mod_le _ _) hAk
              refine lv_aload_n hx hb d_D_run_80 rfl (lv_at hl 3 rfl) ?_
              refine wg_Division_quotient hx hb hC hw (by omega) bw_90 d_D_run_81 ?_
              refine wg_Natural_limbs hx hb hC hw (by omega) bw_44 d_D_run_84 ?_
              refine lv_iload hx hb d_D_run_87 (lv_at hl 0 rfl) ?_
              refine lv_aload_n hx hb d_D_run_89 rfl (lv_at hl 3 rfl) ?_
              refine lv_iload hx hb d_D_run_90 (lv_at hl 0 rfl) ?_
              refine wcV_l (As := [.int (nI q)]) hx hb hC hw (k_D_nextLimb l T (va_up (va_up (fF V4) (14 + 3 * d) (fD rr)) (13 + 3 * d) qf) (fU V4) K I O d q nn v9 rr (kD A9) hd3 hkb (by omega) ul nb1 nb2 (by rw [va_up_ne _ _ (by omega), va_up_ne _ _ (by omega)]; unfold fF; rw [v4l]) ur (by omega) hrl (by rw [va_up_ne _ _ (by omega), va_up_self]) hmod) lk_D_55 rfl rfl ⟨by show 2 + 1 ≤ R.frames; omega, by show 8 + (4 + 11) + 57 ≤ R.locals; omega⟩ (by omega) (we_Division (by omega)) rfl rfl hl.1 rfl (Nat.le_of_ble_eq_true rfl) ⟨Nat.zero_le _, Nat.zero_le _⟩ d_D_run_92 (fun H locs hw => ?_)
              rw [va_drop _ (by omega), va_comm _ (by omega)] at hw
              refine ws_limbs hx hb hw (by omega) (by omega) d_D_run_95 (fun H locs hw => ?_)
              rw [bx_uu, va_up_self] at hw
              refine lv_iinc (v := (nI q - 1)) hx hb d_D_run_96 hl (k := 0) rfl (i32_m1 _) (by decide) rfl (fun ls hl => ?_)
              have hl : lv_has ls 6 [(5, .int (nI q - 1)), (4, .int (nI (kD A9 - nn))), (3, .int (nI sp)), (0, .ref (wa T (81 + d))), (1, .ref (wa T a)), (2, .ref (wa T b))] := hl
              refine lv_goto (tgt := 75) hx hb d_D_run_99 (by decide) ?_
              refine ih _ _ ls H locs (by rw [← hrg]; exact dg_rest _ _ _) (fun j a1 a2 => ?_) (by omega) hl hw
              by_cases ej : j = q
              · rw [ej, pk_uLs, fD_lN, ← hrg, dg_quot]
              · rw [pk_uLn ej]; exact h2 j (by omega) a2
          refine lp (kD A9 - nn + 1) A9 (fD 0) ls _ _ (Nat.mod_eq_of_lt hAv).symm (fun j a1 a2 => ?_) (Nat.le_refl _) hl hw
          rw [fD0, fD_lN, Nat.div_eq_of_lt (Nat.lt_of_lt_of_le (dq_lt hAk nb2 hkb hnk) (vB_le a1)), Nat.zero_mod]; rfl
        · exact absurd (by split <;> decide +kernel) h9
set_option maxRecDepth 100000 in
set_option maxHeartbeats 4000000 in
theorem k_D_stepOver (l : Launch) (T : wT) (V : Nat → Nat) (K : wUt) (I : wIt) (O : wOt) (d b : Nat) (hd3 : d < 3) (hb9 : b < 34) (hbo : b < 13 + 3 * d ∨ 15 + 3 * d < b) (hk : kD (V (13 + 3 * d)) ≤ 74) (hle : V (14 + 3 * d) ≤ V b) (hV : ∀ n, n < 34 → V n < vLim) : Met l y_D_stepOver (.code y_D_stepOver c_D_stepOver 2 none :: bg) ({ frames := 2, cells := 0, slots := 0, locals := 48 } : Room) (mP T (fF V) (fU V) K I O [.ref (wa T (81 + d)), .ref (wa T b)]) (mQv T (fF (va_up (va_up V (13 + 3 * d) (V (13 + 3 * d) + 1)) (14 + 3 * d) (V b - V (14 + 3 * d)))) (fU (va_up (va_up V (13 + 3 * d) (V (13 + 3 * d) + 1)) (14 + 3 * d) (V b - V (14 + 3 * d)))) K I O) 0 0 (wA T) := by
  refine wM_v (by decide) (Nat.le_of_ble_eq_true rfl) ?_
  intro p e R s m args below meth c Q ls hx hb hC hRf hRl hret hl hw
  have hRf : 2 ≤ R.frames := hRf
  have hRl : 48 ≤ R.locals := hRl
  have hl : lv_has ls 2 [(0, .ref (wa T (81 + d))), (1, .ref (wa T b))] := hl
  have hq : V (13 + 3 * d) + 1 < vLim := Nat.lt_of_le_of_lt (kD_lt (hV _ (by omega))) (Nat.lt_of_le_of_lt (vB_le hk) (Nat.pow_lt_pow_right (by decide) (by decide)))
  refine lv_aload_n hx hb d_D_stepOver_0 rfl (lv_at hl 0 rfl) ?_
  refine wg_Division_quotient hx hb hC hw (by omega) bw_90 d_D_stepOver_1 ?_
  refine wcV_v (As := []) hx hb hC hw (k_N_increase l T V K I O (13 + 3 * d) (by omega) hk hV) lk_D_66 rfl rfl ⟨by show 1 + 1 ≤ R.frames; omega, by show 8 + (2 + 11) + 21 ≤ R.locals; omega⟩ (by omega) (we_Natural (by omega)) rfl rfl hl.1 rfl (Nat.le_of_ble_eq_true rfl) ⟨Nat.zero_le _, Nat.zero_le _⟩ d_D_stepOver_4 (fun H locs hw => ?_)
  refine lv_aload_n hx hb d_D_stepOver_7 rfl (lv_at hl 0 rfl) ?_
  refine wg_Division_rest hx hb hC hw (by omega) bw_93 d_D_stepOver_8 ?_
  refine lv_aload_n hx hb d_D_stepOver_11 rfl (lv_at hl 1 rfl) ?_
  refine lv_aload_n hx hb d_D_stepOver_12 rfl (lv_at hl 0 rfl) ?_
  refine wg_Division_rest hx hb hC hw (by omega) bw_93 d_D_stepOver_13 ?_
  refine wcV_v (As := [.ref (wa T b), .ref (wa T (14 + 3 * d))]) hx hb hC hw (k_N_takeDifference l T (va_up V (13 + 3 * d) (V (13 + 3 * d) + 1)) K I O (14 + 3 * d) b (14 + 3 * d) (by omega) hb9 (by omega) (by rw [va_up_ne _ _ (by omega), va_up_ne _ _ (by omega)]; exact hle) (hV_up hV hq)) lk_D_69 rfl rfl ⟨by show 1 + 1 ≤ R.frames; omega, by show 8 + (7 + 11) + 22 ≤ R.locals; omega⟩ (by omega) (we_Natural (by omega)) rfl rfl hl.1 rfl (Nat.le_of_ble_eq_true rfl) ⟨Nat.zero_le _, Nat.zero_le _⟩ d_D_stepOver_16 (fun H locs hw => ?_)
  rw [va_up_ne V (j := b) _ (by omega), va_up_ne V (j := 14 + 3 * d) _ (by omega)] at hw
  exact hret _ _ _ _ hw d_D_stepOver_19
end
section
/-! Whole: a number and whether it is below 0 -/
def bI (b : Bool) : Int32 := if b then 1 else 0
theorem bI_t : bI true = nI 1 := rfl
theorem bI_f : bI false = nI 0 := rfl
theorem zb1 : narrow .boolean (.int (nI 1)) = .int (nI 1) := rfl
theorem zf1 : fits .boolean (.int (nI 1)) = true := by decide +kernel
theorem zb0 : narrow .boolean (.int (nI 0)) = .int (nI 0) := rfl
theorem zf0 : fits .boolean (.int (nI 0)) = true := by decide +kernel
theorem zpos {z : Int64} (h : 0 ≤ z.toInt) : z = lN z.toInt.natAbs := by
  have h1 : z = Int64.ofInt z.toInt := (Int64.ofInt_toInt z).symm
  conv => lhs; rw [h1, ← Int.natAbs_of_nonneg h]
  rfl
theorem zneg {z : Int64} (h : z.toInt < 0) : -z = lN z.toInt.natAbs := by
  have h1 : z = Int64.ofInt z.toInt := (Int64.ofInt_toInt z).symm
  have h2 : z.toInt = -((z.toInt.natAbs : Nat) : Int) := by omega
  conv => lhs; rw [h1, h2, Int64.ofInt_neg]
  rw [Int64.neg_neg]
  rfl
theorem zabs (z : Int64) : z.toInt.natAbs < 2 ^ 64 := by
  have h1 := z.toInt_lt
  have h2 := z.le_toInt
  omega
def cmp3 (a b : Nat) : Int32 := if a < b then -1 else if a = b then 0 else 1

set_option maxRecDepth 100000 in
set_option maxHeartbeats 4000000 in
theorem k_W_take (l : Launch) (T : wT) (V : Nat → Nat) (K : wUt) (I : wIt) (O : wOt) (k a : Nat) (bt : Bool) (hk : k < 13) (ha : a < 34) (hV : ∀ n, n < 34 → V n < vLim) : Met l y_W_take (.code y_W_take c_W_take 3 none :: bg) ({ frames := 2, cells := 0, slots := 0, locals := 45 } : Room) (mP T (fF V) (fU V) K I O [.ref (wa T (68 + k)), .ref (wa T a), .int (bI bt)]) (mQv T (fF (va_up V k (V a))) (fU (va_up V k (V a))) (va_up K k (bI (bt && !decide (V a = 0)))) I O) 0 0 (wA T) := by
  refine wM_v (by decide) (Nat.le_of_ble_eq_true rfl) ?_
  intro p e R s m args below meth c Q ls hx hb hC hRf hRl hret hl hw
  have hRf : 2 ≤ R.frames := hRf
  have hRl : 45 ≤ R.locals := hRl
  have hl : lv_has ls 3 [(0, .ref (wa T (68 + k))), (1, .ref (wa T a)), (2, .int (bI bt))] := hl
  refine lv_aload_n hx hb d_W_take_0 rfl (lv_at hl 0 rfl) ?_
  refine wg_Whole_size hx hb hC hw (by omega) bw_53 d_W_take_1 ?_
  refine lv_aload_n hx hb d_W_take_4 rfl (lv_at hl 1 rfl) ?_
  refine wcV_v (As := [.ref (wa T a)]) hx hb hC hw (k_N_take l T V K I O k a (by omega) ha hV) lk_W_20 rfl rfl ⟨by show 1 + 1 ≤ R.frames; omega, by show 8 + (4 + 11) + 22 ≤ R.locals; omega⟩ (by omega) (we_Natural (by omega)) rfl rfl hl.1 rfl (Nat.le_of_ble_eq_true rfl) ⟨Nat.zero_le _, Nat.zero_le _⟩ d_W_take_5 (fun H locs hw => ?_)
  have hV1 : ∀ n, n < 34 → va_up V k (V a) n < vLim := hV_up hV (hV a ha)
  cases bt
  · have hl : lv_has ls 3 [(0, .ref (wa T (68 + k))), (1, .ref (wa T a)), (2, .int (nI 0))] := hl
    refine lv_aload_n hx hb d_W_take_8 rfl (lv_at hl 0 rfl) ?_
    refine lv_iload_n hx hb d_W_take_9 rfl (lv_at hl 2 rfl) ?_
    refine n_if_eq (tgt := 27) hx hb d_W_take_10 (by decide) (by omega) (fun hw9 => ?_) (fun hw9 => ?_)
    · refine lv_iconst (v := nI 0) hx hb d_W_take_27 (by decide +kernel) ?_
      refine wp_Whole_below hx hb hC hw (by omega) (zb0) (zf0) bw_57 d_W_take_28 (fun H locs hw => ?_)
      exact hret _ _ _ _ hw d_W_take_31
    · exact absurd hw9 (by decide)
  · have hl : lv_has ls 3 [(0, .ref (wa T (68 + k))), (1, .ref (wa T a)), (2, .int (nI 1))] := hl
    refine lv_aload_n hx hb d_W_take_8 rfl (lv_at hl 0 rfl) ?_
    refine lv_iload_n hx hb d_W_take_9 rfl (lv_at hl 2 rfl) ?_
    refine n_if_eq (tgt := 27) hx hb d_W_take_10 (by decide) (by omega) (fun hw9 => ?_) (fun hw9 => ?_)
    · exact absurd hw9 (by decide)
    · refine lv_aload_n hx hb d_W_take_13 rfl (lv_at hl 0 rfl) ?_
      refine wg_Whole_size hx hb hC hw (by omega) bw_53 d_W_take_14 ?_
      refine wcV_z (As := []) hx hb hC hw (k_N_isZero l T (va_up V k (V a)) K I O k (by omega) hV1) lk_W_24 rfl rfl ⟨by show 0 + 1 ≤ R.frames; omega, by show 8 + (1 + 11) + 0 ≤ R.locals; omega⟩ (by omega) (we_Natural (by omega)) rfl rfl hl.1 rfl (Nat.le_of_ble_eq_true rfl) ⟨Nat.zero_le _, Nat.zero_le _⟩ d_W_take_17 (fun H locs hw => ?_)
      by_cases hz : (va_up V k (V a)) k = 0
      · refine sw_i (y := nI 1) (by rw [if_pos hz]; rfl) ?_
        refine n_if_ne (tgt := 27) hx hb d_W_take_20 (by decide) (by omega) (fun hw9 => ?_) (fun hw9 => ?_)
        · refine lv_iconst (v := nI 0) hx hb d_W_take_27 (by decide +kernel) ?_
          refine wp_Whole_below hx hb hC hw (by omega) (zb0) (zf0) bw_57 d_W_take_28 (fun H locs hw => ?_)
          rw [va_up_self] at hz
          have e9 : bI (true && !decide (V a = 0)) = nI 0 := by rw [decide_eq_true hz]; rfl
          rw [← e9] at hw
          exact hret _ _ _ _ hw d_W_take_31
        · exact absurd hw9 (by decide)
      · refine sw_i (y := nI 0) (by rw [if_neg hz]; rfl) ?_
        refine n_if_ne (tgt := 27) hx hb d_W_take_20 (by decide) (by omega) (fun hw9 => ?_) (fun hw9 => ?_)
        · exact absurd hw9 (by decide)
        · refine lv_iconst (v := nI 1) hx hb d_W_take_23 (by decide +kernel) ?_
          refine lv_goto (tgt := 28) hx hb d_W_take_24 (by decide) ?_
          refine wp_Whole_below hx hb hC hw (by omega) (zb1) (zf1) bw_57 d_W_take_28 (fun H locs hw => ?_)
          rw [va_up_self] at hz
          have e9 : bI (true && !decide (V a = 0)) = nI 1 := by rw [decide_eq_false hz]; rfl
          rw [← e9] at hw
          exact hret _ _ _ _ hw d_W_take_31
set_option maxRecDepth 100000 in
set_option maxHeartbeats 4000000 in
theorem k_W_takeLong (l : Launch) (T : wT) (V : Nat → Nat) (K : wUt) (I : wIt) (O : wOt) (k : Nat) (z : Int64) (hk : k < 13) (hV : ∀ n, n < 34 → V n < vLim) : Met l y_W_takeLong (.code y_W_takeLong c_W_takeLong 3 none :: bg) ({ frames := 2, cells := 0, slots := 0, locals := 44 } : Room) (mP T (fF V) (fU V) K I O [.ref (wa T (68 + k)), .long z]) (mQv T (fF (va_up V k z.toInt.natAbs)) (fU (va_up V k z.toInt.natAbs)) (va_up K k (bI (decide (z.toInt < 0)))) I O) 0 0 (wA T) := by
  refine wM_v (by decide) (Nat.le_of_ble_eq_true rfl) ?_
  intro p e R s m args below meth c Q ls hx hb hC hRf hRl hret hl hw
  have hRf : 2 ≤ R.frames := hRf
  have hRl : 44 ≤ R.locals := hRl
  have hl : lv_has ls 3 [(0, .ref (wa T (68 + k))), (1, .long z)] := hl
  have e0 : (0 : Int64).toInt = 0 := lj_0
  refine lv_aload_n hx hb d_W_takeLong_0 rfl (lv_at hl 0 rfl) ?_
  refine wg_Whole_size hx hb hC hw (by omega) bw_53 d_W_takeLong_1 ?_
  refine lv_lload_n hx hb d_W_takeLong_4 rfl (lv_at hl 1 rfl) ?_
  refine lv_lconst (v := 0) hx hb d_W_takeLong_5 (by decide +kernel) ?_
  refine lc_ge (tgt := 15) hx hb d_W_takeLong_6 d_W_takeLong_7 (by decide) (fun h => ?_) (fun h => ?_)
  · rw [e0] at h
    refine lv_lload_n hx hb d_W_takeLong_15 rfl (lv_at hl 1 rfl) ?_
    refine sw_l (y := lN z.toInt.natAbs) (zpos h) ?_
    refine wcV_v (As := [.long (lN z.toInt.natAbs)]) hx hb hC hw (k_N_takeUnsigned l T V K I O k z.toInt.natAbs (by omega) (zabs z) hV) lk_W_28 rfl rfl ⟨by show 1 + 1 ≤ R.frames; omega, by show 8 + (3 + 11) + 22 ≤ R.locals; omega⟩ (by omega) (we_Natural (by omega)) rfl rfl hl.1 rfl (Nat.le_of_ble_eq_true rfl) ⟨Nat.zero_le _, Nat.zero_le _⟩ d_W_takeLong_16 (fun H locs hw => ?_)
    refine lv_aload_n hx hb d_W_takeLong_19 rfl (lv_at hl 0 rfl) ?_
    refine lv_lload_n hx hb d_W_takeLong_20 rfl (lv_at hl 1 rfl) ?_
    refine lv_lconst (v := 0) hx hb d_W_takeLong_21 (by decide +kernel) ?_
    refine lc_ge (tgt := 30) hx hb d_W_takeLong_22 d_W_takeLong_23 (by decide) (fun h2 => ?_) (fun h2 => ?_)
    · rw [e0] at h2
      refine lv_iconst (v := nI 0) hx hb d_W_takeLong_30 (by decide +kernel) ?_
      refine wp_Whole_below hx hb hC hw (by omega) (zb0) (zf0) bw_57 d_W_takeLong_31 (fun H locs hw => ?_)
      have e9 : bI (decide (z.toInt < 0)) = nI 0 := by rw [decide_eq_false (by omega)]; rfl
      rw [← e9] at hw
      exact hret _ _ _ _ hw d_W_takeLong_34
    · rw [e0] at h2
      exact absurd h2 (by omega)
  · rw [e0] at h
    refine lv_lload_n hx hb d_W_takeLong_10 rfl (lv_at hl 1 rfl) ?_
    refine lv_lneg hx hb d_W_takeLong_11 ?_
    refine lv_goto (tgt := 16) hx hb d_W_takeLong_12 (by decide) ?_
    refine sw_l (y := lN z.toInt.natAbs) (zneg h) ?_
    refine wcV_v (As := [.long (lN z.toInt.natAbs)]) hx hb hC hw (k_N_takeUnsigned l T V K I O k z.toInt.natAbs (by omega) (zabs z) hV) lk_W_28 rfl rfl ⟨by show 1 + 1 ≤ R.frames; omega, by show 8 + (3 + 11) + 22 ≤ R.locals; omega⟩ (by omega) (we_Natural (by omega)) rfl rfl hl.1 rfl (Nat.le_of_ble_eq_true rfl) ⟨Nat.zero_le _, Nat.zero_le _⟩ d_W_takeLong_16 (fun H locs hw => ?_)
    refine lv_aload_n hx hb d_W_takeLong_19 rfl (lv_at hl 0 rfl) ?_
    refine lv_lload_n hx hb d_W_takeLong_20 rfl (lv_at hl 1 rfl) ?_
    refine lv_lconst (v := 0) hx hb d_W_takeLong_21 (by decide +kernel) ?_
    refine lc_ge (tgt := 30) hx hb d_W_takeLong_22 d_W_takeLong_23 (by decide) (fun h2 => ?_) (fun h2 => ?_)
    · rw [e0] at h2
      exact absurd h2 (by omega)
    · rw [e0] at h2
      refine lv_iconst (v := nI 1) hx hb d_W_takeLong_26 (by decide +kernel) ?_
      refine lv_goto (tgt := 31) hx hb d_W_takeLong_27 (by decide) ?_
      refine wp_Whole_below hx hb hC hw (by omega) (zb1) (zf1) bw_57 d_W_takeLong_31 (fun H locs hw => ?_)
      have e9 : bI (decide (z.toInt < 0)) = nI 1 := by rw [decide_eq_true (by omega)]; rfl
      rw [← e9] at hw
      exact hret _ _ _ _ hw d_W_takeLong_34
set_option maxRecDepth 100000 in
set_option maxHeartbeats 4000000 in
theorem k_W_takeRaised (l : Launch) (T : wT) (V : Nat → Nat) (K : wUt) (I : wIt) (O : wOt) (k j n : Nat) (hk : k < 13) (hj : j < 13) (hjk : j ≠ k) (hn : n < 2147483648) (hkn : kD (V j) + n / 28 ≤ 74) (bj : Bool) (hKj : K j = bI bj) (hV : ∀ n, n < 34 → V n < vLim) : Met l y_W_takeRaised (.code y_W_takeRaised c_W_takeRaised 3 none :: bg) ({ frames := 2, cells := 0, slots := 0, locals := 52 } : Room) (mP T (fF V) (fU V) K I O [.ref (wa T (68 + k)), .ref (wa T (68 + j)), .int (nI n)]) (mQv T (fF (va_up V k (V j * 2 ^ n))) (fU (va_up V k (V j * 2 ^ n))) (va_up K k (bI bj)) I O) 0 0 (wA T) := by
  refine wM_v (by decide) (Nat.le_of_ble_eq_true rfl) ?_
  intro p e R s m args below meth c Q ls hx hb hC hRf hRl hret hl hw
  have hRf : 2 ≤ R.frames := hRf
  have hRl : 52 ≤ R.locals := hRl
  have hl : lv_has ls 3 [(0, .ref (wa T (68 + k))), (1, .ref (wa T (68 + j))), (2, .int (nI n))] := hl
  refine lv_aload_n hx hb d_W_takeRaised_0 rfl (lv_at hl 0 rfl) ?_
  refine wg_Whole_size hx hb hC hw (by omega) bw_53 d_W_takeRaised_1 ?_
  refine lv_aload_n hx hb d_W_takeRaised_4 rfl (lv_at hl 1 rfl) ?_
  refine wg_Whole_size hx hb hC hw (by omega) bw_53 d_W_takeRaised_5 ?_
  refine lv_iload_n hx hb d_W_takeRaised_8 rfl (lv_at hl 2 rfl) ?_
  refine wcV_v (As := [.ref (wa T j), .int (nI n)]) hx hb hC hw (k_N_takeRaised l T V K I O k j n (by omega) (by omega) hjk hn hkn hV) lk_W_46 rfl rfl ⟨by show 1 + 1 ≤ R.frames; omega, by show 8 + (11 + 11) + 22 ≤ R.locals; omega⟩ (by omega) (we_Natural (by omega)) rfl rfl hl.1 rfl (Nat.le_of_ble_eq_true rfl) ⟨Nat.zero_le _, Nat.zero_le _⟩ d_W_takeRaised_9 (fun H locs hw => ?_)
  cases bj
  · refine lv_aload_n hx hb d_W_takeRaised_12 rfl (lv_at hl 0 rfl) ?_
    refine lv_aload_n hx hb d_W_takeRaised_13 rfl (lv_at hl 1 rfl) ?_
    refine wg_Whole_below hx hb hC hw (by omega) bw_57 d_W_takeRaised_14 ?_
    refine sw_i (y := nI 0) (hKj) ?_
    refine wp_Whole_below hx hb hC hw (by omega) (zb0) (zf0) bw_57 d_W_takeRaised_17 (fun H locs hw => ?_)
    exact hret _ _ _ _ hw d_W_takeRaised_20
  · refine lv_aload_n hx hb d_W_takeRaised_12 rfl (lv_at hl 0 rfl) ?_
    refine lv_aload_n hx hb d_W_takeRaised_13 rfl (lv_at hl 1 rfl) ?_
    refine wg_Whole_below hx hb hC hw (by omega) bw_57 d_W_takeRaised_14 ?_
    refine sw_i (y := nI 1) (hKj) ?_
    refine wp_Whole_below hx hb hC hw (by omega) (zb1) (zf1) bw_57 d_W_takeRaised_17 (fun H locs hw => ?_)
    exact hret _ _ _ _ hw d_W_takeRaised_20
set_option maxRecDepth 100000 in
set_option maxHeartbeats 4000000 in
theorem k_W_takeProduct (l : Launch) (T : wT) (V : Nat → Nat) (K : wUt) (I : wIt) (O : wOt) (k i j : Nat) (hk : k < 13) (hi9 : i < 13) (hj : j < 13) (hik : i ≠ k) (hjk : j ≠ k) (hkk : kD (V i) + kD (V j) ≤ 74) (bi bj : Bool) (hKi : K i = bI bi) (hKj : K j = bI bj) (hV : ∀ n, n < 34 → V n < vLim) : Met l y_W_takeProduct (.code y_W_takeProduct c_W_takeProduct 3 none :: bg) ({ frames := 3, cells := 0, slots := 0, locals := 69 } : Room) (mP T (fF V) (fU V) K I O [.ref (wa T (68 + k)), .ref (wa T (68 + i)), .ref (wa T (68 + j))]) (mQv T (fF (va_up V k (V i * V j))) (fU (va_up V k (V i * V j))) (va_up K k (bI ((bi != bj) && !decide (V i * V j = 0)))) I O) 0 0 (wA T) := by
  refine wM_v (by decide) (Nat.le_of_ble_eq_true rfl) ?_
  intro p e R s m args below meth c Q ls hx hb hC hRf hRl hret hl hw
  have hRf : 3 ≤ R.frames := hRf
  have hRl : 69 ≤ R.locals := hRl
  have hl : lv_has ls 3 [(0, .ref (wa T (68 + k))), (1, .ref (wa T (68 + i))), (2, .ref (wa T (68 + j)))] := hl
  have hP : V i * V j < vLim := Nat.lt_of_lt_of_le (vB_mul (kD_lt (hV i (by omega))) (kD_lt (hV j (by omega)))) (vB_le (by omega))
  have hV1 : ∀ n, n < 34 → va_up V k (V i * V j) n < vLim := hV_up hV hP
  refine lv_aload_n hx hb d_W_takeProduct_0 rfl (lv_at hl 0 rfl) ?_
  refine wg_Whole_size hx hb hC hw (by omega) bw_53 d_W_takeProduct_1 ?_
  refine lv_aload_n hx hb d_W_takeProduct_4 rfl (lv_at hl 1 rfl) ?_
  refine wg_Whole_size hx hb hC hw (by omega) bw_53 d_W_takeProduct_5 ?_
  refine lv_aload_n hx hb d_W_takeProduct_8 rfl (lv_at hl 2 rfl) ?_
  refine wg_Whole_size hx hb hC hw (by omega) bw_53 d_W_takeProduct_9 ?_
  refine wcV_v (As := [.ref (wa T i), .ref (wa T j)]) hx hb hC hw (k_N_takeProduct l T V K I O k i j (by omega) (by omega) (by omega) hik hjk (by omega) hV) lk_W_43 rfl rfl ⟨by show 2 + 1 ≤ R.frames; omega, by show 8 + (4 + 11) + 46 ≤ R.locals; omega⟩ (by omega) (we_Natural (by omega)) rfl rfl hl.1 rfl (Nat.le_of_ble_eq_true rfl) ⟨Nat.zero_le _, Nat.zero_le _⟩ d_W_takeProduct_12 (fun H locs hw => ?_)
  cases bi
  · cases bj
    · refine lv_aload_n hx hb d_W_takeProduct_15 rfl (lv_at hl 0 rfl) ?_
      refine lv_aload_n hx hb d_W_takeProduct_16 rfl (lv_at hl 1 rfl) ?_
      refine wg_Whole_below hx hb hC hw (by omega) bw_57 d_W_takeProduct_17 ?_
      refine sw_i (y := nI 0) (hKi) ?_
      refine lv_aload_n hx hb d_W_takeProduct_20 rfl (lv_at hl 2 rfl) ?_
      refine wg_Whole_below hx hb hC hw (by omega) bw_57 d_W_takeProduct_21 ?_
      refine sw_i (y := nI 0) (hKj) ?_
      refine n_icmp_eq (tgt := 41) hx hb d_W_takeProduct_24 (by decide) (by omega) (by omega) (fun hw9 => ?_) (fun hw9 => ?_)
      · refine lv_iconst (v := nI 0) hx hb d_W_takeProduct_41 (by decide +kernel) ?_
        refine wp_Whole_below hx hb hC hw (by omega) (zb0) (zf0) bw_57 d_W_takeProduct_42 (fun H locs hw => ?_)
        have e9 : bI ((false != false) && !decide (V i * V j = 0)) = nI 0 := rfl
        rw [← e9] at hw
        exact hret _ _ _ _ hw d_W_takeProduct_45
      · exact absurd hw9 (by decide)
    · refine lv_aload_n hx hb d_W_takeProduct_15 rfl (lv_at hl 0 rfl) ?_
      refine lv_aload_n hx hb d_W_takeProduct_16 rfl (lv_at hl 1 rfl) ?_
      refine wg_Whole_below hx hb hC hw (by omega) bw_57 d_W_takeProduct_17 ?_
      refine sw_i (y := nI 0) (hKi) ?_
      refine lv_aload_n hx hb d_W_takeProduct_20 rfl (lv_at hl 2 rfl) ?_
      refine wg_Whole_below hx hb hC hw (by omega) bw_57 d_W_takeProduct_21 ?_
      refine sw_i (y := nI 1) (hKj) ?_
      refine n_icmp_eq (tgt := 41) hx hb d_W_takeProduct_24 (by decide) (by omega) (by omega) (fun hw9 => ?_) (fun hw9 => ?_)
      · exact absurd hw9 (by decide)
      · refine lv_aload_n hx hb d_W_takeProduct_27 rfl (lv_at hl 0 rfl) ?_
        refine wg_Whole_size hx hb hC hw (by omega) bw_53 d_W_takeProduct_28 ?_
        refine wcV_z (As := []) hx hb hC hw (k_N_isZero l T (va_up V k (V i * V j)) K I O k (by omega) hV1) lk_W_24 rfl rfl ⟨by show 0 + 1 ≤ R.frames; omega, by show 8 + (1 + 11) + 0 ≤ R.locals; omega⟩ (by omega) (we_Natural (by omega)) rfl rfl hl.1 rfl (Nat.le_of_ble_eq_true rfl) ⟨Nat.zero_le _, Nat.zero_le _⟩ d_W_takeProduct_31 (fun H locs hw => ?_)
        by_cases hz : (va_up V k (V i * V j)) k = 0
        · refine sw_i (y := nI 1) (by rw [if_pos hz]; rfl) ?_
          refine n_if_ne (tgt := 41) hx hb d_W_takeProduct_34 (by decide) (by omega) (fun hw9 => ?_) (fun hw9 => ?_)
          · rw [va_up_self] at hz
            refine lv_iconst (v := nI 0) hx hb d_W_takeProduct_41 (by decide +kernel) ?_
            refine wp_Whole_below hx hb hC hw (by omega) (zb0) (zf0) bw_57 d_W_takeProduct_42 (fun H locs hw => ?_)
            have e9 : bI ((false != true) && !decide (V i * V j = 0)) = nI 0 := by rw [decide_eq_true hz]; rfl
            rw [← e9] at hw
            exact hret _ _ _ _ hw d_W_takeProduct_45
          · exact absurd hw9 (by decide)
        · refine sw_i (y := nI 0) (by rw [if_neg hz]; rfl) ?_
          refine n_if_ne (tgt := 41) hx hb d_W_takeProduct_34 (by decide) (by omega) (fun hw9 => ?_) (fun hw9 => ?_)
          · exact absurd hw9 (by decide)
          · rw [va_up_self] at hz
            refine lv_iconst (v := nI 1) hx hb d_W_takeProduct_37 (by decide +kernel) ?_
            refine lv_goto (tgt := 42) hx hb d_W_takeProduct_38 (by decide) ?_
            refine wp_Whole_below hx hb hC hw (by omega) (zb1) (zf1) bw_57 d_W_takeProduct_42 (fun H locs hw => ?_)
            have e9 : bI ((false != true) && !decide (V i * V j = 0)) = nI 1 := by rw [decide_eq_false hz]; rfl
            rw [← e9] at hw
            exact hret _ _ _ _ hw d_W_takeProduct_45
  · cases bj
    · refine lv_aload_n hx hb d_W_takeProduct_15 rfl (lv_at hl 0 rfl) ?_
      refine lv_aload_n hx hb d_W_takeProduct_16 rfl (lv_at hl 1 rfl) ?_
      refine wg_Whole_below hx hb hC hw (by omega) bw_57 d_W_takeProduct_17 ?_
      refine sw_i (y := nI 1) (hKi) ?_
      refine lv_aload_n hx hb d_W_takeProduct_20 rfl (lv_at hl 2 rfl) ?_
      refine wg_Whole_below hx hb hC hw (by omega) bw_57 d_W_takeProduct_21 ?_
      refine sw_i (y := nI 0) (hKj) ?_
      refine n_icmp_eq (tgt := 41) hx hb d_W_takeProduct_24 (by decide) (by omega) (by omega) (fun hw9 => ?_) (fun hw9 => ?_)
      · exact absurd hw9 (by decide)
      · refine lv_aload_n hx hb d_W_takeProduct_27 rfl (lv_at hl 0 rfl) ?_
        refine wg_Whole_size hx hb hC hw (by omega) bw_53 d_W_takeProduct_28 ?_
        refine wcV_z (As := []) hx hb hC hw (k_N_isZero l T (va_up V k (V i * V j)) K I O k (by omega) hV1) lk_W_24 rfl rfl ⟨by show 0 + 1 ≤ R.frames; omega, by show 8 + (1 + 11) + 0 ≤ R.locals; omega⟩ (by omega) (we_Natural (by omega)) rfl rfl hl.1 rfl (Nat.le_of_ble_eq_true rfl) ⟨Nat.zero_le _, Nat.zero_le _⟩ d_W_takeProduct_31 (fun H locs hw => ?_)
        by_cases hz : (va_up V k (V i * V j)) k = 0
        · refine sw_i (y := nI 1) (by rw [if_pos hz]; rfl) ?_
          refine n_if_ne (tgt := 41) hx hb d_W_takeProduct_34 (by decide) (by omega) (fun hw9 => ?_) (fun hw9 => ?_)
          · rw [va_up_self] at hz
            refine lv_iconst (v := nI 0) hx hb d_W_takeProduct_41 (by decide +kernel) ?_
            refine wp_Whole_below hx hb hC hw (by omega) (zb0) (zf0) bw_57 d_W_takeProduct_42 (fun H locs hw => ?_)
            have e9 : bI ((true != false) && !decide (V i * V j = 0)) = nI 0 := by rw [decide_eq_true hz]; rfl
            rw [← e9] at hw
            exact hret _ _ _ _ hw d_W_takeProduct_45
          · exact absurd hw9 (by decide)
        · refine sw_i (y := nI 0) (by rw [if_neg hz]; rfl) ?_
          refine n_if_ne (tgt := 41) hx hb d_W_takeProduct_34 (by decide) (by omega) (fun hw9 => ?_) (fun hw9 => ?_)
          · exact absurd hw9 (by decide)
          · rw [va_up_self] at hz
            refine lv_iconst (v := nI 1) hx hb d_W_takeProduct_37 (by decide +kernel) ?_
            refine lv_goto (tgt := 42) hx hb d_W_takeProduct_38 (by decide) ?_
            refine wp_Whole_below hx hb hC hw (by omega) (zb1) (zf1) bw_57 d_W_takeProduct_42 (fun H locs hw => ?_)
            have e9 : bI ((true != false) && !decide (V i * V j = 0)) = nI 1 := by rw [decide_eq_false hz]; rfl
            rw [← e9] at hw
            exact hret _ _ _ _ hw d_W_takeProduct_45
    · refine lv_aload_n hx hb d_W_takeProduct_15 rfl (lv_at hl 0 rfl) ?_
      refine lv_aload_n hx hb d_W_takeProduct_16 rfl (lv_at hl 1 rfl) ?_
      refine wg_Whole_below hx hb hC hw (by omega) bw_57 d_W_takeProduct_17 ?_
      refine sw_i (y := nI 1) (hKi) ?_
      refine lv_aload_n hx hb d_W_takeProduct_20 rfl (lv_at hl 2 rfl) ?_
      refine wg_Whole_below hx hb hC hw (by omega) bw_57 d_W_takeProduct_21 ?_
      refine sw_i (y := nI 1) (hKj) ?_
      refine n_icmp_eq (tgt := 41) hx hb d_W_takeProduct_24 (by decide) (by omega) (by omega) (fun hw9 => ?_) (fun hw9 => ?_)
      · refine lv_iconst (v := nI 0) hx hb d_W_takeProduct_41 (by decide +kernel) ?_
        refine wp_Whole_below hx hb hC hw (by omega) (zb0) (zf0) bw_57 d_W_takeProduct_42 (fun H locs hw => ?_)
        have e9 : bI ((true != true) && !decide (V i * V j = 0)) = nI 0 := rfl
        rw [← e9] at hw
        exact hret _ _ _ _ hw d_W_takeProduct_45
      · exact absurd hw9 (by decide)
set_option maxRecDepth 100000 in
set_option maxHeartbeats 4000000 in
theorem k_W_order (l : Launch) (T : wT) (V : Nat → Nat) (K : wUt) (I : wIt) (O : wOt) (i j : Nat) (hi9 : i < 13) (hj : j < 13) (bi bj : Bool) (hKi : K i = bI bi) (hKj : K j = bI bj) (hV : ∀ n, n < 34 → V n < vLim) : Met l y_W_order (.code y_W_order c_W_order 2 (some .int) :: bg) ({ frames := 1, cells := 0, slots := 0, locals := 22 } : Room) (mP T (fF V) (fU V) K I O [.ref (wa T (68 + i)), .ref (wa T (68 + j))]) (mQi T (if bi = bj then (if bi = true then cmp3 (V j) (V i) else cmp3 (V i) (V j)) else if bi = true then (-1 : Int32) else 1) (fF V) (fU V) K I O) 0 0 (wA T) := by
  refine wM_i (by decide) (Nat.le_of_ble_eq_true rfl) ?_
  intro p e R s m args below meth c Q ls hx hb hC hRf hRl hret hl hw
  have hRf : 1 ≤ R.frames := hRf
  have hRl : 22 ≤ R.locals := hRl
  have hl : lv_has ls 2 [(0, .ref (wa T (68 + i))), (1, .ref (wa T (68 + j)))] := hl
  cases bi
  · cases bj
    · refine lv_aload_n hx hb d_W_order_0 rfl (lv_at hl 0 rfl) ?_
      refine wg_Whole_below hx hb hC hw (by omega) bw_57 d_W_order_1 ?_
      refine sw_i (y := nI 0) (hKi) ?_
      refine lv_aload_n hx hb d_W_order_4 rfl (lv_at hl 1 rfl) ?_
      refine wg_Whole_below hx hb hC hw (by omega) bw_57 d_W_order_5 ?_
      refine sw_i (y := nI 0) (hKj) ?_
      refine n_icmp_eq (tgt := 24) hx hb d_W_order_8 (by decide) (by omega) (by omega) (fun hw9 => ?_) (fun hw9 => ?_)
      · refine lv_aload_n hx hb d_W_order_24 rfl (lv_at hl 0 rfl) ?_
        refine wg_Whole_below hx hb hC hw (by omega) bw_57 d_W_order_25 ?_
        refine sw_i (y := nI 0) (hKi) ?_
        refine n_if_eq (tgt := 45) hx hb d_W_order_28 (by decide) (by omega) (fun hw9 => ?_) (fun hw9 => ?_)
        · refine lv_aload_n hx hb d_W_order_45 rfl (lv_at hl 0 rfl) ?_
          refine wg_Whole_size hx hb hC hw (by omega) bw_53 d_W_order_46 ?_
          refine lv_aload_n hx hb d_W_order_49 rfl (lv_at hl 1 rfl) ?_
          refine wg_Whole_size hx hb hC hw (by omega) bw_53 d_W_order_50 ?_
          refine wcV_i (As := [.ref (wa T j)]) hx hb hC hw (k_N_order l T V K I O i j (by omega) (by omega) hV) lk_W_36 rfl rfl ⟨by show 0 + 1 ≤ R.frames; omega, by show 8 + (3 + 11) + 0 ≤ R.locals; omega⟩ (by omega) (we_Natural (by omega)) rfl rfl hl.1 rfl (Nat.le_of_ble_eq_true rfl) ⟨Nat.zero_le _, Nat.zero_le _⟩ d_W_order_53 (fun H locs hw => ?_)
          exact hret _ _ _ _ hw d_W_order_56
        · exact absurd hw9 (by decide)
      · exact absurd hw9 (by decide)
    · refine lv_aload_n hx hb d_W_order_0 rfl (lv_at hl 0 rfl) ?_
      refine wg_Whole_below hx hb hC hw (by omega) bw_57 d_W_order_1 ?_
      refine sw_i (y := nI 0) (hKi) ?_
      refine lv_aload_n hx hb d_W_order_4 rfl (lv_at hl 1 rfl) ?_
      refine wg_Whole_below hx hb hC hw (by omega) bw_57 d_W_order_5 ?_
      refine sw_i (y := nI 1) (hKj) ?_
      refine n_icmp_eq (tgt := 24) hx hb d_W_order_8 (by decide) (by omega) (by omega) (fun hw9 => ?_) (fun hw9 => ?_)
      · exact absurd hw9 (by decide)
      · refine lv_aload_n hx hb d_W_order_11 rfl (lv_at hl 0 rfl) ?_
        refine wg_Whole_below hx hb hC hw (by omega) bw_57 d_W_order_12 ?_
        refine sw_i (y := nI 0) (hKi) ?_
        refine n_if_eq (tgt := 22) hx hb d_W_order_15 (by decide) (by omega) (fun hw9 => ?_) (fun hw9 => ?_)
        · refine lv_iconst (v := nI 1) hx hb d_W_order_22 (by decide +kernel) ?_
          exact hret _ _ _ _ hw d_W_order_23
        · exact absurd hw9 (by decide)
  · cases bj
    · refine lv_aload_n hx hb d_W_order_0 rfl (lv_at hl 0 rfl) ?_
      refine wg_Whole_below hx hb hC hw (by omega) bw_57 d_W_order_1 ?_
      refine sw_i (y := nI 1) (hKi) ?_
      refine lv_aload_n hx hb d_W_order_4 rfl (lv_at hl 1 rfl) ?_
      refine wg_Whole_below hx hb hC hw (by omega) bw_57 d_W_order_5 ?_
      refine sw_i (y := nI 0) (hKj) ?_
      refine n_icmp_eq (tgt := 24) hx hb d_W_order_8 (by decide) (by omega) (by omega) (fun hw9 => ?_) (fun hw9 => ?_)
      · exact absurd hw9 (by decide)
      · refine lv_aload_n hx hb d_W_order_11 rfl (lv_at hl 0 rfl) ?_
        refine wg_Whole_below hx hb hC hw (by omega) bw_57 d_W_order_12 ?_
        refine sw_i (y := nI 1) (hKi) ?_
        refine n_if_eq (tgt := 22) hx hb d_W_order_15 (by decide) (by omega) (fun hw9 => ?_) (fun hw9 => ?_)
        · exact absurd hw9 (by decide)
        · refine lv_iconst (v := (-1)) hx hb d_W_order_18 (by decide +kernel) ?_
          refine lv_goto (tgt := 23) hx hb d_W_order_19 (by decide) ?_
          exact hret _ _ _ _ hw d_W_order_23
    · refine lv_aload_n hx hb d_W_order_0 rfl (lv_at hl 0 rfl) ?_
      refine wg_Whole_below hx hb hC hw (by omega) bw_57 d_W_order_1 ?_
      refine sw_i (y := nI 1) (hKi) ?_
      refine lv_aload_n hx hb d_W_order_4 rfl (lv_at hl 1 rfl) ?_
      refine wg_Whole_below hx hb hC hw (by omega) bw_57 d_W_order_5 ?_
      refine sw_i (y := nI 1) (hKj) ?_
      refine n_icmp_eq (tgt := 24) hx hb d_W_order_8 (by decide) (by omega) (by omega) (fun hw9 => ?_) (fun hw9 => ?_)
      · refine lv_aload_n hx hb d_W_order_24 rfl (lv_at hl 0 rfl) ?_
        refine wg_Whole_below hx hb hC hw (by omega) bw_57 d_W_order_25 ?_
        refine sw_i (y := nI 1) (hKi) ?_
        refine n_if_eq (tgt := 45) hx hb d_W_order_28 (by decide) (by omega) (fun hw9 => ?_) (fun hw9 => ?_)
        · exact absurd hw9 (by decide)
        · refine lv_aload_n hx hb d_W_order_31 rfl (lv_at hl 1 rfl) ?_
          refine wg_Whole_size hx hb hC hw (by omega) bw_53 d_W_order_32 ?_
          refine lv_aload_n hx hb d_W_order_35 rfl (lv_at hl 0 rfl) ?_
          refine wg_Whole_size hx hb hC hw (by omega) bw_53 d_W_order_36 ?_
          refine wcV_i (As := [.ref (wa T i)]) hx hb hC hw (k_N_order l T V K I O j i (by omega) (by omega) hV) lk_W_36 rfl rfl ⟨by show 0 + 1 ≤ R.frames; omega, by show 8 + (3 + 11) + 0 ≤ R.locals; omega⟩ (by omega) (we_Natural (by omega)) rfl rfl hl.1 rfl (Nat.le_of_ble_eq_true rfl) ⟨Nat.zero_le _, Nat.zero_le _⟩ d_W_order_39 (fun H locs hw => ?_)
          refine lv_goto (tgt := 56) hx hb d_W_order_42 (by decide) ?_
          exact hret _ _ _ _ hw d_W_order_56
      · exact absurd hw9 (by decide)
set_option maxRecDepth 100000 in
set_option maxHeartbeats 4000000 in
theorem k_W_isOddAfter (l : Launch) (T : wT) (V : Nat → Nat) (K : wUt) (I : wIt) (O : wOt) (k i : Nat) (hk : k < 13) (hb9 : i < 2147483648) (bk : Bool) (hKk : K k = bI bk) (hV : ∀ n, n < 34 → V n < vLim) : Met l y_W_isOddAfter (.code y_W_isOddAfter c_W_isOddAfter 2 (some .boolean) :: bg) ({ frames := 2, cells := 0, slots := 0, locals := 44 } : Room) (mP T (fF V) (fU V) K I O [.ref (wa T (68 + k)), .int (nI i)]) (mQi T (if ((V k).testBit i != (bk && decide (V k % 2 ^ i ≠ 0))) = true then (1 : Int32) else 0) (fF V) (fU V) K I O) 0 0 (wA T) := by
  refine wM_z (by decide) (Nat.le_of_ble_eq_true rfl) (zN _) ?_
  intro p e R s m args below meth c Q ls hx hb hC hRf hRl hret hl hw
  have hRf : 2 ≤ R.frames := hRf
  have hRl : 44 ≤ R.locals := hRl
  have hl : lv_has ls 2 [(0, .ref (wa T (68 + k))), (1, .int (nI i))] := hl
  refine lv_aload_n hx hb d_W_isOddAfter_0 rfl (lv_at hl 0 rfl) ?_
  refine wg_Whole_size hx hb hC hw (by omega) bw_53 d_W_isOddAfter_1 ?_
  refine lv_iload_n hx hb d_W_isOddAfter_4 rfl (lv_at hl 1 rfl) ?_
  refine wcV_z (As := [.int (nI i)]) hx hb hC hw (k_N_hasBit l T V K I O k i (by omega) hb9 hV) lk_W_60 rfl rfl ⟨by show 1 + 1 ≤ R.frames; omega, by show 8 + (2 + 11) + 21 ≤ R.locals; omega⟩ (by omega) (we_Natural (by omega)) rfl rfl hl.1 rfl (Nat.le_of_ble_eq_true rfl) ⟨Nat.zero_le _, Nat.zero_le _⟩ d_W_isOddAfter_5 (fun H locs hw => ?_)
  generalize htb : (V k).testBit i = tb
  cases tb
  · refine sw_i (y := nI 0) rfl ?_
    cases bk
    · refine lv_aload_n hx hb d_W_isOddAfter_8 rfl (lv_at hl 0 rfl) ?_
      refine wg_Whole_below hx hb hC hw (by omega) bw_57 d_W_isOddAfter_9 ?_
      refine sw_i (y := nI 0) (hKk) ?_
      refine n_if_eq (tgt := 30) hx hb d_W_isOddAfter_12 (by decide) (by omega) (fun hw9 => ?_) (fun hw9 => ?_)
      · refine lv_iconst (v := nI 0) hx hb d_W_isOddAfter_30 (by decide +kernel) ?_
        refine n_icmp_eq (tgt := 38) hx hb d_W_isOddAfter_31 (by decide) (by omega) (by omega) (fun hw9 => ?_) (fun hw9 => ?_)
        · refine lv_iconst (v := nI 0) hx hb d_W_isOddAfter_38 (by decide +kernel) ?_
          rw [htb] at hret
          exact hret _ _ _ _ hw d_W_isOddAfter_39
        · exact absurd hw9 (by decide)
      · exact absurd hw9 (by decide)
    · refine lv_aload_n hx hb d_W_isOddAfter_8 rfl (lv_at hl 0 rfl) ?_
      refine wg_Whole_below hx hb hC hw (by omega) bw_57 d_W_isOddAfter_9 ?_
      refine sw_i (y := nI 1) (hKk) ?_
      refine n_if_eq (tgt := 30) hx hb d_W_isOddAfter_12 (by decide) (by omega) (fun hw9 => ?_) (fun hw9 => ?_)
      · exact absurd hw9 (by decide)
      · refine lv_aload_n hx hb d_W_isOddAfter_15 rfl (lv_at hl 0 rfl) ?_
        refine wg_Whole_size hx hb hC hw (by omega) bw_53 d_W_isOddAfter_16 ?_
        refine lv_iload_n hx hb d_W_isOddAfter_19 rfl (lv_at hl 1 rfl) ?_
        refine wcV_z (As := [.int (nI i)]) hx hb hC hw (k_N_hasBitBelow l T V K I O k i (by omega) hb9 hV) lk_W_50 rfl rfl ⟨by show 1 + 1 ≤ R.frames; omega, by show 8 + (4 + 11) + 21 ≤ R.locals; omega⟩ (by omega) (we_Natural (by omega)) rfl rfl hl.1 rfl (Nat.le_of_ble_eq_true rfl) ⟨Nat.zero_le _, Nat.zero_le _⟩ d_W_isOddAfter_20 (fun H locs hw => ?_)
        by_cases hz : V k % 2 ^ i ≠ 0
        · refine sw_i (y := nI 1) (by rw [if_pos hz]; rfl) ?_
          refine n_if_eq (tgt := 30) hx hb d_W_isOddAfter_23 (by decide) (by omega) (fun hw9 => ?_) (fun hw9 => ?_)
          · exact absurd hw9 (by decide)
          · refine lv_iconst (v := nI 1) hx hb d_W_isOddAfter_26 (by decide +kernel) ?_
            refine lv_goto (tgt := 31) hx hb d_W_isOddAfter_27 (by decide) ?_
            refine n_icmp_eq (tgt := 38) hx hb d_W_isOddAfter_31 (by decide) (by omega) (by omega) (fun hw9 => ?_) (fun hw9 => ?_)
            · exact absurd hw9 (by decide)
            · refine lv_iconst (v := nI 1) hx hb d_W_isOddAfter_34 (by decide +kernel) ?_
              refine lv_goto (tgt := 39) hx hb d_W_isOddAfter_35 (by decide) ?_
              rw [htb, decide_eq_true hz] at hret
              exact hret _ _ _ _ hw d_W_isOddAfter_39
        · refine sw_i (y := nI 0) (by rw [if_neg hz]; rfl) ?_
          refine n_if_eq (tgt := 30) hx hb d_W_isOddAfter_23 (by decide) (by omega) (fun hw9 => ?_) (fun hw9 => ?_)
          · refine lv_iconst (v := nI 0) hx hb d_W_isOddAfter_30 (by decide +kernel) ?_
            refine n_icmp_eq (tgt := 38) hx hb d_W_isOddAfter_31 (by decide) (by omega) (by omega) (fun hw9 => ?_) (fun hw9 => ?_)
            · refine lv_iconst (v := nI 0) hx hb d_W_isOddAfter_38 (by decide +kernel) ?_
              rw [htb, decide_eq_false hz] at hret
              exact hret _ _ _ _ hw d_W_isOddAfter_39
            · exact absurd hw9 (by decide)
          · exact absurd hw9 (by decide)
  · refine sw_i (y := nI 1) rfl ?_
    cases bk
    · refine lv_aload_n hx hb d_W_isOddAfter_8 rfl (lv_at hl 0 rfl) ?_
      refine wg_Whole_below hx hb hC hw (by omega) bw_57 d_W_isOddAfter_9 ?_
      refine sw_i (y := nI 0) (hKk) ?_
      refine n_if_eq (tgt := 30) hx hb d_W_isOddAfter_12 (by decide) (by omega) (fun hw9 => ?_) (fun hw9 => ?_)
      · refine lv_iconst (v := nI 0) hx hb d_W_isOddAfter_30 (by decide +kernel) ?_
        refine n_icmp_eq (tgt := 38) hx hb d_W_isOddAfter_31 (by decide) (by omega) (by omega) (fun hw9 => ?_) (fun hw9 => ?_)
        · exact absurd hw9 (by decide)
        · refine lv_iconst (v := nI 1) hx hb d_W_isOddAfter_34 (by decide +kernel) ?_
          refine lv_goto (tgt := 39) hx hb d_W_isOddAfter_35 (by decide) ?_
          rw [htb] at hret
          exact hret _ _ _ _ hw d_W_isOddAfter_39
      · exact absurd hw9 (by decide)
    · refine lv_aload_n hx hb d_W_isOddAfter_8 rfl (lv_at hl 0 rfl) ?_
      refine wg_Whole_below hx hb hC hw (by omega) bw_57 d_W_isOddAfter_9 ?_
      refine sw_i (y := nI 1) (hKk) ?_
      refine n_if_eq (tgt := 30) hx hb d_W_isOddAfter_12 (by decide) (by omega) (fun hw9 => ?_) (fun hw9 => ?_)
      · exact absurd hw9 (by decide)
      · refine lv_aload_n hx hb d_W_isOddAfter_15 rfl (lv_at hl 0 rfl) ?_
        refine wg_Whole_size hx hb hC hw (by omega) bw_53 d_W_isOddAfter_16 ?_
        refine lv_iload_n hx hb d_W_isOddAfter_19 rfl (lv_at hl 1 rfl) ?_
        refine wcV_z (As := [.int (nI i)]) hx hb hC hw (k_N_hasBitBelow l T V K I O k i (by omega) hb9 hV) lk_W_50 rfl rfl ⟨by show 1 + 1 ≤ R.frames; omega, by show 8 + (4 + 11) + 21 ≤ R.locals; omega⟩ (by omega) (we_Natural (by omega)) rfl rfl hl.1 rfl (Nat.le_of_ble_eq_true rfl) ⟨Nat.zero_le _, Nat.zero_le _⟩ d_W_isOddAfter_20 (fun H locs hw => ?_)
        by_cases hz : V k % 2 ^ i ≠ 0
        · refine sw_i (y := nI 1) (by rw [if_pos hz]; rfl) ?_
          refine n_if_eq (tgt := 30) hx hb d_W_isOddAfter_23 (by decide) (by omega) (fun hw9 => ?_) (fun hw9 => ?_)
          · exact absurd hw9 (by decide)
          · refine lv_iconst (v := nI 1) hx hb d_W_isOddAfter_26 (by decide +kernel) ?_
            refine lv_goto (tgt := 31) hx hb d_W_isOddAfter_27 (by decide) ?_
            refine n_icmp_eq (tgt := 38) hx hb d_W_isOddAfter_31 (by decide) (by omega) (by omega) (fun hw9 => ?_) (fun hw9 => ?_)
            · refine lv_iconst (v := nI 0) hx hb d_W_isOddAfter_38 (by decide +kernel) ?_
              rw [htb, decide_eq_true hz] at hret
              exact hret _ _ _ _ hw d_W_isOddAfter_39
            · exact absurd hw9 (by decide)
        · refine sw_i (y := nI 0) (by rw [if_neg hz]; rfl) ?_
          refine n_if_eq (tgt := 30) hx hb d_W_isOddAfter_23 (by decide) (by omega) (fun hw9 => ?_) (fun hw9 => ?_)
          · refine lv_iconst (v := nI 0) hx hb d_W_isOddAfter_30 (by decide +kernel) ?_
            refine n_icmp_eq (tgt := 38) hx hb d_W_isOddAfter_31 (by decide) (by omega) (by omega) (fun hw9 => ?_) (fun hw9 => ?_)
            · exact absurd hw9 (by decide)
            · refine lv_iconst (v := nI 1) hx hb d_W_isOddAfter_34 (by decide +kernel) ?_
              refine lv_goto (tgt := 39) hx hb d_W_isOddAfter_35 (by decide) ?_
              rw [htb, decide_eq_false hz] at hret
              exact hret _ _ _ _ hw d_W_isOddAfter_39
          · exact absurd hw9 (by decide)
end
section
/-! Whole: lowered, sums -/
def sV (b s : Bool) (x y : Nat) : Nat := if b = s then x + y else if y ≤ x then x - y else y - x
def sG (b s : Bool) (x y : Nat) : Bool := if b = s then b else if y ≤ x then b else s
def sB (b s : Bool) (x y : Nat) : Bool := sG b s x y && !decide (sV b s x y = 0)
theorem sV_lt {b s : Bool} {x y : Nat} (hx : x < vB ^ 74) (hy : y < vB ^ 74) : sV b s x y < vLim := by
  have h1 : vB ^ 74 * 2 ≤ vLim := by
    have e : vLim = vB ^ 74 * 268435456 := Nat.pow_succ ..
    rw [e]; exact Nat.mul_le_mul_left _ (by decide)
  unfold sV
  generalize vB ^ 74 = P at *
  split
  · omega
  · split <;> omega

set_option maxRecDepth 100000 in
set_option maxHeartbeats 4000000 in
theorem k_W_takeLowered (l : Launch) (T : wT) (V : Nat → Nat) (K : wUt) (I : wIt) (O : wOt) (k j n : Nat) (hk : k < 13) (hj : j < 13) (hjk : j ≠ k) (hn : n < 1073741824) (hkj : kD (V j) ≤ 74) (bj : Bool) (hKj : K j = bI bj) (hV : ∀ n, n < 34 → V n < vLim) : Met l y_W_takeLowered (.code y_W_takeLowered c_W_takeLowered 4 none :: bg) ({ frames := 2, cells := 0, slots := 0, locals := 52 } : Room) (mP T (fF V) (fU V) K I O [.ref (wa T (68 + k)), .ref (wa T (68 + j)), .int (nI n)]) (mQv T (fF (va_up V k (V j / 2 ^ n + (if (bj && decide (V j % 2 ^ n ≠ 0)) = true then 1 else 0)))) (fU (va_up V k (V j / 2 ^ n + (if (bj && decide (V j % 2 ^ n ≠ 0)) = true then 1 else 0)))) (va_up K k (bI bj)) I O) 0 0 (wA T) := by
  refine wM_v (by decide) (Nat.le_of_ble_eq_true rfl) ?_
  intro p e R s m args below meth c Q ls hx hb hC hRf hRl hret hl hw
  have hRf : 2 ≤ R.frames := hRf
  have hRl : 52 ≤ R.locals := hRl
  have hl : lv_has ls 4 [(0, .ref (wa T (68 + k))), (1, .ref (wa T (68 + j))), (2, .int (nI n))] := hl
  have hq : V j / 2 ^ n < vLim := Nat.lt_of_le_of_lt (Nat.div_le_self _ _) (hV j (by omega))
  have hq2 : kD (V j / 2 ^ n) ≤ 74 := Nat.le_trans (kD_mo (hV j (by omega)) (Nat.div_le_self _ _)) hkj
  cases bj
  · refine lv_aload_n hx hb d_W_takeLowered_0 rfl (lv_at hl 1 rfl) ?_
    refine wg_Whole_below hx hb hC hw (by omega) bw_57 d_W_takeLowered_1 ?_
    refine sw_i (y := nI 0) (hKj) ?_
    refine n_if_eq (tgt := 22) hx hb d_W_takeLowered_4 (by decide) (by omega) (fun hw9 => ?_) (fun hw9 => ?_)
    · refine lv_iconst (v := nI 0) hx hb d_W_takeLowered_22 (by decide +kernel) ?_
      refine lv_istore_n hx hb d_W_takeLowered_23 rfl hl (by decide) rfl (fun ls hl => ?_)
      have hl : lv_has ls 4 [(3, .int (nI 0)), (0, .ref (wa T (68 + k))), (1, .ref (wa T (68 + j))), (2, .int (nI n))] := hl
      refine lv_aload_n hx hb d_W_takeLowered_24 rfl (lv_at hl 1 rfl) ?_
      refine wg_Whole_size hx hb hC hw (by omega) bw_53 d_W_takeLowered_25 ?_
      refine lv_aload_n hx hb d_W_takeLowered_28 rfl (lv_at hl 2 rfl) ?_
      refine wg_Whole_size hx hb hC hw (by omega) bw_53 d_W_takeLowered_29 ?_
      refine lv_iload_n hx hb d_W_takeLowered_32 rfl (lv_at hl 3 rfl) ?_
      refine wcV_v (As := [.ref (wa T j), .int (nI n)]) hx hb hC hw (k_N_takeLowered l T V K I O k j n (by omega) (by omega) hn hV) lk_W_54 rfl rfl ⟨by show 1 + 1 ≤ R.frames; omega, by show 8 + (11 + 11) + 22 ≤ R.locals; omega⟩ (by omega) (we_Natural (by omega)) rfl rfl hl.1 rfl (Nat.le_of_ble_eq_true rfl) ⟨Nat.zero_le _, Nat.zero_le _⟩ d_W_takeLowered_33 (fun H locs hw => ?_)
      refine lv_iload_n hx hb d_W_takeLowered_36 rfl (lv_at hl 0 rfl) ?_
      refine n_if_eq (tgt := 47) hx hb d_W_takeLowered_37 (by decide) (by omega) (fun hw9 => ?_) (fun hw9 => ?_)
      · refine lv_aload_n hx hb d_W_takeLowered_47 rfl (lv_at hl 1 rfl) ?_
        refine lv_aload_n hx hb d_W_takeLowered_48 rfl (lv_at hl 2 rfl) ?_
        refine wg_Whole_below hx hb hC hw (by omega) bw_57 d_W_takeLowered_49 ?_
        refine sw_i (y := nI 0) (hKj) ?_
        refine wp_Whole_below hx hb hC hw (by omega) (zb0) (zf0) bw_57 d_W_takeLowered_52 (fun H locs hw => ?_)
        have hw := hw
        exact hret _ _ _ _ hw d_W_takeLowered_55
      · exact absurd hw9 (by decide)
    · exact absurd hw9 (by decide)
  · refine lv_aload_n hx hb d_W_takeLowered_0 rfl (lv_at hl 1 rfl) ?_
    refine wg_Whole_below hx hb hC hw (by omega) bw_57 d_W_takeLowered_1 ?_
    refine sw_i (y := nI 1) (hKj) ?_
    refine n_if_eq (tgt := 22) hx hb d_W_takeLowered_4 (by decide) (by omega) (fun hw9 => ?_) (fun hw9 => ?_)
    · exact absurd hw9 (by decide)
    · refine lv_aload_n hx hb d_W_takeLowered_7 rfl (lv_at hl 1 rfl) ?_
      refine wg_Whole_size hx hb hC hw (by omega) bw_53 d_W_takeLowered_8 ?_
      refine lv_iload_n hx hb d_W_takeLowered_11 rfl (lv_at hl 2 rfl) ?_
      refine wcV_z (As := [.int (nI n)]) hx hb hC hw (k_N_hasBitBelow l T V K I O j n (by omega) (by omega) hV) lk_W_50 rfl rfl ⟨by show 1 + 1 ≤ R.frames; omega, by show 8 + (4 + 11) + 21 ≤ R.locals; omega⟩ (by omega) (we_Natural (by omega)) rfl rfl hl.1 rfl (Nat.le_of_ble_eq_true rfl) ⟨Nat.zero_le _, Nat.zero_le _⟩ d_W_takeLowered_12 (fun H locs hw => ?_)
      by_cases hz : V j % 2 ^ n ≠ 0
      · refine sw_i (y := nI 1) (by rw [if_pos hz]; rfl) ?_
        refine n_if_eq (tgt := 22) hx hb d_W_takeLowered_15 (by decide) (by omega) (fun hw9 => ?_) (fun hw9 => ?_)
        · exact absurd hw9 (by decide)
        · refine lv_iconst (v := nI 1) hx hb d_W_takeLowered_18 (by decide +kernel) ?_
          refine lv_goto (tgt := 23) hx hb d_W_takeLowered_19 (by decide) ?_
          refine lv_istore_n hx hb d_W_takeLowered_23 rfl hl (by decide) rfl (fun ls hl => ?_)
          have hl : lv_has ls 4 [(3, .int (nI 1)), (0, .ref (wa T (68 + k))), (1, .ref (wa T (68 + j))), (2, .int (nI n))] := hl
          refine lv_aload_n hx hb d_W_takeLowered_24 rfl (lv_at hl 1 rfl) ?_
          refine wg_Whole_size hx hb hC hw (by omega) bw_53 d_W_takeLowered_25 ?_
          refine lv_aload_n hx hb d_W_takeLowered_28 rfl (lv_at hl 2 rfl) ?_
          refine wg_Whole_size hx hb hC hw (by omega) bw_53 d_W_takeLowered_29 ?_
          refine lv_iload_n hx hb d_W_takeLowered_32 rfl (lv_at hl 3 rfl) ?_
          refine wcV_v (As := [.ref (wa T j), .int (nI n)]) hx hb hC hw (k_N_takeLowered l T V K I O k j n (by omega) (by omega) hn hV) lk_W_54 rfl rfl ⟨by show 1 + 1 ≤ R.frames; omega, by show 8 + (11 + 11) + 22 ≤ R.locals; omega⟩ (by omega) (we_Natural (by omega)) rfl rfl hl.1 rfl (Nat.le_of_ble_eq_true rfl) ⟨Nat.zero_le _, Nat.zero_le _⟩ d_W_takeLowered_33 (fun H locs hw => ?_)
          refine lv_iload_n hx hb d_W_takeLowered_36 rfl (lv_at hl 0 rfl) ?_
          refine n_if_eq (tgt := 47) hx hb d_W_takeLowered_37 (by decide) (by omega) (fun hw9 => ?_) (fun hw9 => ?_)
          · exact absurd hw9 (by decide)
          · refine lv_aload_n hx hb d_W_takeLowered_40 rfl (lv_at hl 1 rfl) ?_
            refine wg_Whole_size hx hb hC hw (by omega) bw_53 d_W_takeLowered_41 ?_
            refine wcV_v (As := []) hx hb hC hw (k_N_increase l T (va_up V k (V j / 2 ^ n)) K I O k (by omega) (by rw [va_up_self]; exact hq2) (hV_up hV hq)) lk_W_57 rfl rfl ⟨by show 1 + 1 ≤ R.frames; omega, by show 8 + (2 + 11) + 21 ≤ R.locals; omega⟩ (by omega) (we_Natural (by omega)) rfl rfl hl.1 rfl (Nat.le_of_ble_eq_true rfl) ⟨Nat.zero_le _, Nat.zero_le _⟩ d_W_takeLowered_44 (fun H locs hw => ?_)
            rw [va_up_self, bx_uu] at hw
            refine lv_aload_n hx hb d_W_takeLowered_47 rfl (lv_at hl 1 rfl) ?_
            refine lv_aload_n hx hb d_W_takeLowered_48 rfl (lv_at hl 2 rfl) ?_
            refine wg_Whole_below hx hb hC hw (by omega) bw_57 d_W_takeLowered_49 ?_
            refine sw_i (y := nI 1) (hKj) ?_
            refine wp_Whole_below hx hb hC hw (by omega) (zb1) (zf1) bw_57 d_W_takeLowered_52 (fun H locs hw => ?_)
            rw [decide_eq_true hz] at hret
            exact hret _ _ _ _ hw d_W_takeLowered_55
      · refine sw_i (y := nI 0) (by rw [if_neg hz]; rfl) ?_
        refine n_if_eq (tgt := 22) hx hb d_W_takeLowered_15 (by decide) (by omega) (fun hw9 => ?_) (fun hw9 => ?_)
        · refine lv_iconst (v := nI 0) hx hb d_W_takeLowered_22 (by decide +kernel) ?_
          refine lv_istore_n hx hb d_W_takeLowered_23 rfl hl (by decide) rfl (fun ls hl => ?_)
          have hl : lv_has ls 4 [(3, .int (nI 0)), (0, .ref (wa T (68 + k))), (1, .ref (wa T (68 + j))), (2, .int (nI n))] := hl
          refine lv_aload_n hx hb d_W_takeLowered_24 rfl (lv_at hl 1 rfl) ?_
          refine wg_Whole_size hx hb hC hw (by omega) bw_53 d_W_takeLowered_25 ?_
          refine lv_aload_n hx hb d_W_takeLowered_28 rfl (lv_at hl 2 rfl) ?_
          refine wg_Whole_size hx hb hC hw (by omega) bw_53 d_W_takeLowered_29 ?_
          refine lv_iload_n hx hb d_W_takeLowered_32 rfl (lv_at hl 3 rfl) ?_
          refine wcV_v (As := [.ref (wa T j), .int (nI n)]) hx hb hC hw (k_N_takeLowered l T V K I O k j n (by omega) (by omega) hn hV) lk_W_54 rfl rfl ⟨by show 1 + 1 ≤ R.frames; omega, by show 8 + (11 + 11) + 22 ≤ R.locals; omega⟩ (by omega) (we_Natural (by omega)) rfl rfl hl.1 rfl (Nat.le_of_ble_eq_true rfl) ⟨Nat.zero_le _, Nat.zero_le _⟩ d_W_takeLowered_33 (fun H locs hw => ?_)
          refine lv_iload_n hx hb d_W_takeLowered_36 rfl (lv_at hl 0 rfl) ?_
          refine n_if_eq (tgt := 47) hx hb d_W_takeLowered_37 (by decide) (by omega) (fun hw9 => ?_) (fun hw9 => ?_)
          · refine lv_aload_n hx hb d_W_takeLowered_47 rfl (lv_at hl 1 rfl) ?_
            refine lv_aload_n hx hb d_W_takeLowered_48 rfl (lv_at hl 2 rfl) ?_
            refine wg_Whole_below hx hb hC hw (by omega) bw_57 d_W_takeLowered_49 ?_
            refine sw_i (y := nI 1) (hKj) ?_
            refine wp_Whole_below hx hb hC hw (by omega) (zb1) (zf1) bw_57 d_W_takeLowered_52 (fun H locs hw => ?_)
            rw [decide_eq_false hz] at hret
            exact hret _ _ _ _ hw d_W_takeLowered_55
          · exact absurd hw9 (by decide)
        · exact absurd hw9 (by decide)
set_option maxRecDepth 100000 in
set_option maxHeartbeats 4000000 in
theorem k_W_takeSum (l : Launch) (T : wT) (V : Nat → Nat) (K : wUt) (I : wIt) (O : wOt) (k i j : Nat) (hk : k < 13) (hi9 : i < 13) (hj : j < 13) (hki : kD (V i) ≤ 74) (hkj : kD (V j) ≤ 74) (bi bj tu : Bool) (hKi : K i = bI bi) (hKj : K j = bI bj) (hV : ∀ n, n < 34 → V n < vLim) : Met l y_W_takeSum (.code y_W_takeSum c_W_takeSum 6 none :: bg) ({ frames := 2, cells := 0, slots := 0, locals := 48 } : Room) (mP T (fF V) (fU V) K I O [.ref (wa T (68 + k)), .ref (wa T (68 + i)), .ref (wa T (68 + j)), .int (bI tu)]) (mQv T (fF (va_up V k (sV bi (bj != tu) (V i) (V j)))) (fU (va_up V k (sV bi (bj != tu) (V i) (V j)))) (va_up K k (bI (sB bi (bj != tu) (V i) (V j)))) I O) 0 0 (wA T) := by
  refine wM_v (by decide) (Nat.le_of_ble_eq_true rfl) ?_
  intro p e R s m args below meth c Q ls hx hb hC hRf hRl hret hl hw
  have hRf : 2 ≤ R.frames := hRf
  have hRl : 48 ≤ R.locals := hRl
  have hl : lv_has ls 6 [(0, .ref (wa T (68 + k))), (1, .ref (wa T (68 + i))), (2, .ref (wa T (68 + j))), (3, .int (bI tu))] := hl
  have hsl : ∀ b s, sV b s (V i) (V j) < vLim := fun b s => sV_lt (Nat.lt_of_lt_of_le (kD_lt (hV i (by omega))) (vB_le hki)) (Nat.lt_of_lt_of_le (kD_lt (hV j (by omega))) (vB_le hkj))
  cases bi
  · cases bj
    · cases tu
      · have hl : lv_has ls 6 [(0, .ref (wa T (68 + k))), (1, .ref (wa T (68 + i))), (2, .ref (wa T (68 + j))), (3, .int (nI 0))] := hl
        refine lv_aload_n hx hb d_W_takeSum_0 rfl (lv_at hl 2 rfl) ?_
        refine wg_Whole_below hx hb hC hw (by omega) bw_57 d_W_takeSum_1 ?_
        refine sw_i (y := nI 0) (hKj) ?_
        refine lv_iload_n hx hb d_W_takeSum_4 rfl (lv_at hl 3 rfl) ?_
        refine n_icmp_eq (tgt := 12) hx hb d_W_takeSum_5 (by decide) (by omega) (by omega) (fun hw9 => ?_) (fun hw9 => ?_)
        · refine lv_iconst (v := nI 0) hx hb d_W_takeSum_12 (by decide +kernel) ?_
          refine lv_istore hx hb d_W_takeSum_13 hl (by decide) rfl (fun ls hl => ?_)
          have hl : lv_has ls 6 [(4, .int (nI 0)), (0, .ref (wa T (68 + k))), (1, .ref (wa T (68 + i))), (2, .ref (wa T (68 + j))), (3, .int (nI 0))] := hl
          refine lv_aload_n hx hb d_W_takeSum_15 rfl (lv_at hl 2 rfl) ?_
          refine wg_Whole_below hx hb hC hw (by omega) bw_57 d_W_takeSum_16 ?_
          refine sw_i (y := nI 0) (hKi) ?_
          refine lv_istore hx hb d_W_takeSum_19 hl (by decide) rfl (fun ls hl => ?_)
          have hl : lv_has ls 6 [(5, .int (nI 0)), (4, .int (nI 0)), (0, .ref (wa T (68 + k))), (1, .ref (wa T (68 + i))), (2, .ref (wa T (68 + j))), (3, .int (nI 0))] := hl
          refine lv_aload_n hx hb d_W_takeSum_21 rfl (lv_at hl 3 rfl) ?_
          refine wg_Whole_below hx hb hC hw (by omega) bw_57 d_W_takeSum_22 ?_
          refine sw_i (y := nI 0) (hKi) ?_
          refine lv_iload hx hb d_W_takeSum_25 (lv_at hl 1 rfl) ?_
          refine n_icmp_ne (tgt := 48) hx hb d_W_takeSum_27 (by decide) (by omega) (by omega) (fun hw9 => ?_) (fun hw9 => ?_)
          · exact absurd hw9 (by decide)
          · refine lv_aload_n hx hb d_W_takeSum_30 rfl (lv_at hl 2 rfl) ?_
            refine wg_Whole_size hx hb hC hw (by omega) bw_53 d_W_takeSum_31 ?_
            refine lv_aload_n hx hb d_W_takeSum_34 rfl (lv_at hl 3 rfl) ?_
            refine wg_Whole_size hx hb hC hw (by omega) bw_53 d_W_takeSum_35 ?_
            refine lv_aload_n hx hb d_W_takeSum_38 rfl (lv_at hl 4 rfl) ?_
            refine wg_Whole_size hx hb hC hw (by omega) bw_53 d_W_takeSum_39 ?_
            refine wcV_v (As := [.ref (wa T i), .ref (wa T j)]) hx hb hC hw (k_N_takeSum l T V K I O k i j (by omega) (by omega) (by omega) hki hkj hV) lk_W_32 rfl rfl ⟨by show 1 + 1 ≤ R.frames; omega, by show 8 + (7 + 11) + 22 ≤ R.locals; omega⟩ (by omega) (we_Natural (by omega)) rfl rfl hl.1 rfl (Nat.le_of_ble_eq_true rfl) ⟨Nat.zero_le _, Nat.zero_le _⟩ d_W_takeSum_42 (fun H locs hw => ?_)
            refine lv_goto (tgt := 99) hx hb d_W_takeSum_45 (by decide) ?_
            have eV : sV false (false != false) (V i) (V j) = V i + V j := by rfl
            have eS : sG false (false != false) (V i) (V j) = false := by rfl
            rw [← eV] at hw
            refine lv_aload_n hx hb d_W_takeSum_99 rfl (lv_at hl 2 rfl) ?_
            refine lv_iload hx hb d_W_takeSum_100 (lv_at hl 0 rfl) ?_
            refine n_if_eq (tgt := 119) hx hb d_W_takeSum_102 (by decide) (by omega) (fun hw9 => ?_) (fun hw9 => ?_)
            · refine lv_iconst (v := nI 0) hx hb d_W_takeSum_119 (by decide +kernel) ?_
              refine wp_Whole_below hx hb hC hw (by omega) (zb0) (zf0) bw_57 d_W_takeSum_120 (fun H locs hw => ?_)
              have e9 : bI (sB false (false != false) (V i) (V j)) = nI 0 := by unfold sB; rw [eS]; rfl
              rw [← e9] at hw
              exact hret _ _ _ _ hw d_W_takeSum_123
            · exact absurd hw9 (by decide)
        · exact absurd hw9 (by decide)
      · have hl : lv_has ls 6 [(0, .ref (wa T (68 + k))), (1, .ref (wa T (68 + i))), (2, .ref (wa T (68 + j))), (3, .int (nI 1))] := hl
        refine lv_aload_n hx hb d_W_takeSum_0 rfl (lv_at hl 2 rfl) ?_
        refine wg_Whole_below hx hb hC hw (by omega) bw_57 d_W_takeSum_1 ?_
        refine sw_i (y := nI 0) (hKj) ?_
        refine lv_iload_n hx hb d_W_takeSum_4 rfl (lv_at hl 3 rfl) ?_
        refine n_icmp_eq (tgt := 12) hx hb d_W_takeSum_5 (by decide) (by omega) (by omega) (fun hw9 => ?_) (fun hw9 => ?_)
        · exact absurd hw9 (by decide)
        · refine lv_iconst (v := nI 1) hx hb d_W_takeSum_8 (by decide +kernel) ?_
          refine lv_goto (tgt := 13) hx hb d_W_takeSum_9 (by decide) ?_
          refine lv_istore hx hb d_W_takeSum_13 hl (by decide) rfl (fun ls hl => ?_)
          have hl : lv_has ls 6 [(4, .int (nI 1)), (0, .ref (wa T (68 + k))), (1, .ref (wa T (68 + i))), (2, .ref (wa T (68 + j))), (3, .int (nI 1))] := hl
          refine lv_aload_n hx hb d_W_takeSum_15 rfl (lv_at hl 2 rfl) ?_
          refine wg_Whole_below hx hb hC hw (by omega) bw_57 d_W_takeSum_16 ?_
          refine sw_i (y := nI 0) (hKi) ?_
          refine lv_istore hx hb d_W_takeSum_19 hl (by decide) rfl (fun ls hl => ?_)
          have hl : lv_has ls 6 [(5, .int (nI 0)), (4, .int (nI 1)), (0, .ref (wa T (68 + k))), (1, .ref (wa T (68 + i))), (2, .ref (wa T (68 + j))), (3, .int (nI 1))] := hl
          refine lv_aload_n hx hb d_W_takeSum_21 rfl (lv_at hl 3 rfl) ?_
          refine wg_Whole_below hx hb hC hw (by omega) bw_57 d_W_takeSum_22 ?_
          refine sw_i (y := nI 0) (hKi) ?_
          refine lv_iload hx hb d_W_takeSum_25 (lv_at hl 1 rfl) ?_
          refine n_icmp_ne (tgt := 48) hx hb d_W_takeSum_27 (by decide) (by omega) (by omega) (fun hw9 => ?_) (fun hw9 => ?_)
          · refine lv_aload_n hx hb d_W_takeSum_48 rfl (lv_at hl 3 rfl) ?_
            refine wg_Whole_size hx hb hC hw (by omega) bw_53 d_W_takeSum_49 ?_
            refine lv_aload_n hx hb d_W_takeSum_52 rfl (lv_at hl 4 rfl) ?_
            refine wg_Whole_size hx hb hC hw (by omega) bw_53 d_W_takeSum_53 ?_
            refine wcV_i (As := [.ref (wa T j)]) hx hb hC hw (k_N_order l T V K I O i j (by omega) (by omega) hV) lk_W_36 rfl rfl ⟨by show 0 + 1 ≤ R.frames; omega, by show 8 + (3 + 11) + 0 ≤ R.locals; omega⟩ (by omega) (we_Natural (by omega)) rfl rfl hl.1 rfl (Nat.le_of_ble_eq_true rfl) ⟨Nat.zero_le _, Nat.zero_le _⟩ d_W_takeSum_56 (fun H locs hw => ?_)
            by_cases hlt : V i < V j
            · refine sw_i (y := -1) (by rw [if_pos hlt]) ?_
              refine lv_if_lt (tgt := 80) hx hb d_W_takeSum_59 (by decide) (fun h9 => ?_) (fun h9 => ?_)
              · refine lv_aload_n hx hb d_W_takeSum_80 rfl (lv_at hl 2 rfl) ?_
                refine wg_Whole_size hx hb hC hw (by omega) bw_53 d_W_takeSum_81 ?_
                refine lv_aload_n hx hb d_W_takeSum_84 rfl (lv_at hl 4 rfl) ?_
                refine wg_Whole_size hx hb hC hw (by omega) bw_53 d_W_takeSum_85 ?_
                refine lv_aload_n hx hb d_W_takeSum_88 rfl (lv_at hl 3 rfl) ?_
                refine wg_Whole_size hx hb hC hw (by omega) bw_53 d_W_takeSum_89 ?_
                refine wcV_v (As := [.ref (wa T j), .ref (wa T i)]) hx hb hC hw (k_N_takeDifference l T V K I O k j i (by omega) (by omega) (by omega) (by omega) hV) lk_W_40 rfl rfl ⟨by show 1 + 1 ≤ R.frames; omega, by show 8 + (7 + 11) + 22 ≤ R.locals; omega⟩ (by omega) (we_Natural (by omega)) rfl rfl hl.1 rfl (Nat.le_of_ble_eq_true rfl) ⟨Nat.zero_le _, Nat.zero_le _⟩ d_W_takeSum_92 (fun H locs hw => ?_)
                refine lv_iload hx hb d_W_takeSum_95 (lv_at hl 1 rfl) ?_
                refine lv_istore hx hb d_W_takeSum_97 hl (by decide) rfl (fun ls hl => ?_)
                have hl : lv_has ls 6 [(5, .int (nI 1)), (4, .int (nI 1)), (0, .ref (wa T (68 + k))), (1, .ref (wa T (68 + i))), (2, .ref (wa T (68 + j))), (3, .int (nI 1))] := hl
                have eV : sV false (false != true) (V i) (V j) = V j - V i := by unfold sV; rw [if_neg (by decide), if_neg (by omega)]
                have eS : sG false (false != true) (V i) (V j) = true := by unfold sG; rw [if_neg (by decide), if_neg (by omega)]; rfl
                rw [← eV] at hw
                refine lv_aload_n hx hb d_W_takeSum_99 rfl (lv_at hl 2 rfl) ?_
                refine lv_iload hx hb d_W_takeSum_100 (lv_at hl 0 rfl) ?_
                refine n_if_eq (tgt := 119) hx hb d_W_takeSum_102 (by decide) (by omega) (fun hw9 => ?_) (fun hw9 => ?_)
                · exact absurd hw9 (by decide)
                · refine lv_aload_n hx hb d_W_takeSum_105 rfl (lv_at hl 2 rfl) ?_
                  refine wg_Whole_size hx hb hC hw (by omega) bw_53 d_W_takeSum_106 ?_
                  refine wcV_z (As := []) hx hb hC hw (k_N_isZero l T (va_up V k (sV false (false != true) (V i) (V j))) K I O k (by omega) (hV_up hV (hsl _ _))) lk_W_24 rfl rfl ⟨by show 0 + 1 ≤ R.frames; omega, by show 8 + (1 + 11) + 0 ≤ R.locals; omega⟩ (by omega) (we_Natural (by omega)) rfl rfl hl.1 rfl (Nat.le_of_ble_eq_true rfl) ⟨Nat.zero_le _, Nat.zero_le _⟩ d_W_takeSum_109 (fun H locs hw => ?_)
                  by_cases hz : (va_up V k (sV false (false != true) (V i) (V j))) k = 0
                  · refine sw_i (y := nI 1) (by rw [if_pos hz]; rfl) ?_
                    refine n_if_ne (tgt := 119) hx hb d_W_takeSum_112 (by decide) (by omega) (fun hw9 => ?_) (fun hw9 => ?_)
                    · rw [va_up_self] at hz
                      refine lv_iconst (v := nI 0) hx hb d_W_takeSum_119 (by decide +kernel) ?_
                      refine wp_Whole_below hx hb hC hw (by omega) (zb0) (zf0) bw_57 d_W_takeSum_120 (fun H locs hw => ?_)
                      have e9 : bI (sB false (false != true) (V i) (V j)) = nI 0 := by unfold sB; rw [eS, decide_eq_true hz]; rfl
                      rw [← e9] at hw
                      exact hret _ _ _ _ hw d_W_takeSum_123
                    · exact absurd hw9 (by decide)
                  · refine sw_i (y := nI 0) (by rw [if_neg hz]; rfl) ?_
                    refine n_if_ne (tgt := 119) hx hb d_W_takeSum_112 (by decide) (by omega) (fun hw9 => ?_) (fun hw9 => ?_)
                    · exact absurd hw9 (by decide)
                    · rw [va_up_self] at hz
                      refine lv_iconst (v := nI 1) hx hb d_W_takeSum_115 (by decide +kernel) ?_
                      refine lv_goto (tgt := 120) hx hb d_W_takeSum_116 (by decide) ?_
                      refine wp_Whole_below hx hb hC hw (by omega) (zb1) (zf1) bw_57 d_W_takeSum_120 (fun H locs hw => ?_)
                      have e9 : bI (sB false (false != true) (V i) (V j)) = nI 1 := by unfold sB; rw [eS, decide_eq_false hz]; rfl
                      rw [← e9] at hw
                      exact hret _ _ _ _ hw d_W_takeSum_123
              · exact absurd (by decide +kernel) h9
            · refine sw_i (y := if V i = V j then 0 else 1) (by rw [if_neg hlt]) ?_
              refine lv_if_lt (tgt := 80) hx hb d_W_takeSum_59 (by decide) (fun h9 => ?_) (fun h9 => ?_)
              · exact absurd h9 (by split <;> decide +kernel)
              · refine lv_aload_n hx hb d_W_takeSum_62 rfl (lv_at hl 2 rfl) ?_
                refine wg_Whole_size hx hb hC hw (by omega) bw_53 d_W_takeSum_63 ?_
                refine lv_aload_n hx hb d_W_takeSum_66 rfl (lv_at hl 3 rfl) ?_
                refine wg_Whole_size hx hb hC hw (by omega) bw_53 d_W_takeSum_67 ?_
                refine lv_aload_n hx hb d_W_takeSum_70 rfl (lv_at hl 4 rfl) ?_
                refine wg_Whole_size hx hb hC hw (by omega) bw_53 d_W_takeSum_71 ?_
                refine wcV_v (As := [.ref (wa T i), .ref (wa T j)]) hx hb hC hw (k_N_takeDifference l T V K I O k i j (by omega) (by omega) (by omega) (by omega) hV) lk_W_40 rfl rfl ⟨by show 1 + 1 ≤ R.frames; omega, by show 8 + (7 + 11) + 22 ≤ R.locals; omega⟩ (by omega) (we_Natural (by omega)) rfl rfl hl.1 rfl (Nat.le_of_ble_eq_true rfl) ⟨Nat.zero_le _, Nat.zero_le _⟩ d_W_takeSum_74 (fun H locs hw => ?_)
                refine lv_goto (tgt := 99) hx hb d_W_takeSum_77 (by decide) ?_
                have eV : sV false (false != true) (V i) (V j) = V i - V j := by unfold sV; rw [if_neg (by decide), if_pos (by omega)]
                have eS : sG false (false != true) (V i) (V j) = false := by unfold sG; rw [if_neg (by decide), if_pos (by omega)]
                rw [← eV] at hw
                refine lv_aload_n hx hb d_W_takeSum_99 rfl (lv_at hl 2 rfl) ?_
                refine lv_iload hx hb d_W_takeSum_100 (lv_at hl 0 rfl) ?_
                refine n_if_eq (tgt := 119) hx hb d_W_takeSum_102 (by decide) (by omega) (fun hw9 => ?_) (fun hw9 => ?_)
                · refine lv_iconst (v := nI 0) hx hb d_W_takeSum_119 (by decide +kernel) ?_
                  refine wp_Whole_below hx hb hC hw (by omega) (zb0) (zf0) bw_57 d_W_takeSum_120 (fun H locs hw => ?_)
                  have e9 : bI (sB false (false != true) (V i) (V j)) = nI 0 := by unfold sB; rw [eS]; rfl
                  rw [← e9] at hw
                  exact hret _ _ _ _ hw d_W_takeSum_123
                · exact absurd hw9 (by decide)
          · exact absurd hw9 (by decide)
    · cases tu
      · have hl : lv_has ls 6 [(0, .ref (wa T (68 + k))), (1, .ref (wa T (68 + i))), (2, .ref (wa T (68 + j))), (3, .int (nI 0))] := hl
        refine lv_aload_n hx hb d_W_takeSum_0 rfl (lv_at hl 2 rfl) ?_
        refine wg_Whole_below hx hb hC hw (by omega) bw_57 d_W_takeSum_1 ?_
        refine sw_i (y := nI 1) (hKj) ?_
        refine lv_iload_n hx hb d_W_takeSum_4 rfl (lv_at hl 3 rfl) ?_
        refine n_icmp_eq (tgt := 12) hx hb d_W_takeSum_5 (by decide) (by omega) (by omega) (fun hw9 => ?_) (fun hw9 => ?_)
        · exact absurd hw9 (by decide)
        · refine lv_iconst (v := nI 1) hx hb d_W_takeSum_8 (by decide +kernel) ?_
          refine lv_goto (tgt := 13) hx hb d_W_takeSum_9 (by decide) ?_
          refine lv_istore hx hb d_W_takeSum_13 hl (by decide) rfl (fun ls hl => ?_)
          have hl : lv_has ls 6 [(4, .int (nI 1)), (0, .ref (wa T (68 + k))), (1, .ref (wa T (68 + i))), (2, .ref (wa T (68 + j))), (3, .int (nI 0))] := hl
          refine lv_aload_n hx hb d_W_takeSum_15 rfl (lv_at hl 2 rfl) ?_
          refine wg_Whole_below hx hb hC hw (by omega) bw_57 d_W_takeSum_16 ?_
          refine sw_i (y := nI 0) (hKi) ?_
          refine lv_istore hx hb d_W_takeSum_19 hl (by decide) rfl (fun ls hl => ?_)
          have hl : lv_has ls 6 [(5, .int (nI 0)), (4, .int (nI 1)), (0, .ref (wa T (68 + k))), (1, .ref (wa T (68 + i))), (2, .ref (wa T (68 + j))), (3, .int (nI 0))] := hl
          refine lv_aload_n hx hb d_W_takeSum_21 rfl (lv_at hl 3 rfl) ?_
          refine wg_Whole_below hx hb hC hw (by omega) bw_57 d_W_takeSum_22 ?_
          refine sw_i (y := nI 0) (hKi) ?_
          refine lv_iload hx hb d_W_takeSum_25 (lv_at hl 1 rfl) ?_
          refine n_icmp_ne (tgt := 48) hx hb d_W_takeSum_27 (by decide) (by omega) (by omega) (fun hw9 => ?_) (fun hw9 => ?_)
          · refine lv_aload_n hx hb d_W_takeSum_48 rfl (lv_at hl 3 rfl) ?_
            refine wg_Whole_size hx hb hC hw (by omega) bw_53 d_W_takeSum_49 ?_
            refine lv_aload_n hx hb d_W_takeSum_52 rfl (lv_at hl 4 rfl) ?_
            refine wg_Whole_size hx hb hC hw (by omega) bw_53 d_W_takeSum_53 ?_
            refine wcV_i (As := [.ref (wa T j)]) hx hb hC hw (k_N_order l T V K I O i j (by omega) (by omega) hV) lk_W_36 rfl rfl ⟨by show 0 + 1 ≤ R.frames; omega, by show 8 + (3 + 11) + 0 ≤ R.locals; omega⟩ (by omega) (we_Natural (by omega)) rfl rfl hl.1 rfl (Nat.le_of_ble_eq_true rfl) ⟨Nat.zero_le _, Nat.zero_le _⟩ d_W_takeSum_56 (fun H locs hw => ?_)
            by_cases hlt : V i < V j
            · refine sw_i (y := -1) (by rw [if_pos hlt]) ?_
              refine lv_if_lt (tgt := 80) hx hb d_W_takeSum_59 (by decide) (fun h9 => ?_) (fun h9 => ?_)
              · refine lv_aload_n hx hb d_W_takeSum_80 rfl (lv_at hl 2 rfl) ?_
                refine wg_Whole_size hx hb hC hw (by omega) bw_53 d_W_takeSum_81 ?_
                refine lv_aload_n hx hb d_W_takeSum_84 rfl (lv_at hl 4 rfl) ?_
                refine wg_Whole_size hx hb hC hw (by omega) bw_53 d_W_takeSum_85 ?_
                refine lv_aload_n hx hb d_W_takeSum_88 rfl (lv_at hl 3 rfl) ?_
                refine wg_Whole_size hx hb hC hw (by omega) bw_53 d_W_takeSum_89 ?_
                refine wcV_v (As := [.ref (wa T j), .ref (wa T i)]) hx hb hC hw (k_N_takeDifference l T V K I O k j i (by omega) (by omega) (by omega) (by omega) hV) lk_W_40 rfl rfl ⟨by show 1 + 1 ≤ R.frames; omega, by show 8 + (7 + 11) + 22 ≤ R.locals; omega⟩ (by omega) (we_Natural (by omega)) rfl rfl hl.1 rfl (Nat.le_of_ble_eq_true rfl) ⟨Nat.zero_le _, Nat.zero_le _⟩ d_W_takeSum_92 (fun H locs hw => ?_)
                refine lv_iload hx hb d_W_takeSum_95 (lv_at hl 1 rfl) ?_
                refine lv_istore hx hb d_W_takeSum_97 hl (by decide) rfl (fun ls hl => ?_)
                have hl : lv_has ls 6 [(5, .int (nI 1)), (4, .int (nI 1)), (0, .ref (wa T (68 + k))), (1, .ref (wa T (68 + i))), (2, .ref (wa T (68 + j))), (3, .int (nI 0))] := hl
                have eV : sV false (true != false) (V i) (V j) = V j - V i := by unfold sV; rw [if_neg (by decide), if_neg (by omega)]
                have eS : sG false (true != false) (V i) (V j) = true := by unfold sG; rw [if_neg (by decide), if_neg (by omega)]; rfl
                rw [← eV] at hw
                refine lv_aload_n hx hb d_W_takeSum_99 rfl (lv_at hl 2 rfl) ?_
                refine lv_iload hx hb d_W_takeSum_100 (lv_at hl 0 rfl) ?_
                refine n_if_eq (tgt := 119) hx hb d_W_takeSum_102 (by decide) (by omega) (fun hw9 => ?_) (fun hw9 => ?_)
                · exact absurd hw9 (by decide)
                · refine lv_aload_n hx hb d_W_takeSum_105 rfl (lv_at hl 2 rfl) ?_
                  refine wg_Whole_size hx hb hC hw (by omega) bw_53 d_W_takeSum_106 ?_
                  refine wcV_z (As := []) hx hb hC hw (k_N_isZero l T (va_up V k (sV false (true != false) (V i) (V j))) K I O k (by omega) (hV_up hV (hsl _ _))) lk_W_24 rfl rfl ⟨by show 0 + 1 ≤ R.frames; omega, by show 8 + (1 + 11) + 0 ≤ R.locals; omega⟩ (by omega) (we_Natural (by omega)) rfl rfl hl.1 rfl (Nat.le_of_ble_eq_true rfl) ⟨Nat.zero_le _, Nat.zero_le _⟩ d_W_takeSum_109 (fun H locs hw => ?_)
                  by_cases hz : (va_up V k (sV false (true != false) (V i) (V j))) k = 0
                  · refine sw_i (y := nI 1) (by rw [if_pos hz]; rfl) ?_
                    refine n_if_ne (tgt := 119) hx hb d_W_takeSum_112 (by decide) (by omega) (fun hw9 => ?_) (fun hw9 => ?_)
                    · rw [va_up_self] at hz
                      refine lv_iconst (v := nI 0) hx hb d_W_takeSum_119 (by decide +kernel) ?_
                      refine wp_Whole_below hx hb hC hw (by omega) (zb0) (zf0) bw_57 d_W_takeSum_120 (fun H locs hw => ?_)
                      have e9 : bI (sB false (true != false) (V i) (V j)) = nI 0 := by unfold sB; rw [eS, decide_eq_true hz]; rfl
                      rw [← e9] at hw
                      exact hret _ _ _ _ hw d_W_takeSum_123
                    · exact absurd hw9 (by decide)
                  · refine sw_i (y := nI 0) (by rw [if_neg hz]; rfl) ?_
                    refine n_if_ne (tgt := 119) hx hb d_W_takeSum_112 (by decide) (by omega) (fun hw9 => ?_) (fun hw9 => ?_)
                    · exact absurd hw9 (by decide)
                    · rw [va_up_self] at hz
                      refine lv_iconst (v := nI 1) hx hb d_W_takeSum_115 (by decide +kernel) ?_
                      refine lv_goto (tgt := 120) hx hb d_W_takeSum_116 (by decide) ?_
                      refine wp_Whole_below hx hb hC hw (by omega) (zb1) (zf1) bw_57 d_W_takeSum_120 (fun H locs hw => ?_)
                      have e9 : bI (sB false (true != false) (V i) (V j)) = nI 1 := by unfold sB; rw [eS, decide_eq_false hz]; rfl
                      rw [← e9] at hw
                      exact hret _ _ _ _ hw d_W_takeSum_123
              · exact absurd (by decide +kernel) h9
            · refine sw_i (y := if V i = V j then 0 else 1) (by rw [if_neg hlt]) ?_
              refine lv_if_lt (tgt := 80) hx hb d_W_takeSum_59 (by decide) (fun h9 => ?_) (fun h9 => ?_)
              · exact absurd h9 (by split <;> decide +kernel)
              · refine lv_aload_n hx hb d_W_takeSum_62 rfl (lv_at hl 2 rfl) ?_
                refine wg_Whole_size hx hb hC hw (by omega) bw_53 d_W_takeSum_63 ?_
                refine lv_aload_n hx hb d_W_takeSum_66 rfl (lv_at hl 3 rfl) ?_
                refine wg_Whole_size hx hb hC hw (by omega) bw_53 d_W_takeSum_67 ?_
                refine lv_aload_n hx hb d_W_takeSum_70 rfl (lv_at hl 4 rfl) ?_
                refine wg_Whole_size hx hb hC hw (by omega) bw_53 d_W_takeSum_71 ?_
                refine wcV_v (As := [.ref (wa T i), .ref (wa T j)]) hx hb hC hw (k_N_takeDifference l T V K I O k i j (by omega) (by omega) (by omega) (by omega) hV) lk_W_40 rfl rfl ⟨by show 1 + 1 ≤ R.frames; omega, by show 8 + (7 + 11) + 22 ≤ R.locals; omega⟩ (by omega) (we_Natural (by omega)) rfl rfl hl.1 rfl (Nat.le_of_ble_eq_true rfl) ⟨Nat.zero_le _, Nat.zero_le _⟩ d_W_takeSum_74 (fun H locs hw => ?_)
                refine lv_goto (tgt := 99) hx hb d_W_takeSum_77 (by decide) ?_
                have eV : sV false (true != false) (V i) (V j) = V i - V j := by unfold sV; rw [if_neg (by decide), if_pos (by omega)]
                have eS : sG false (true != false) (V i) (V j) = false := by unfold sG; rw [if_neg (by decide), if_pos (by omega)]
                rw [← eV] at hw
                refine lv_aload_n hx hb d_W_takeSum_99 rfl (lv_at hl 2 rfl) ?_
                refine lv_iload hx hb d_W_takeSum_100 (lv_at hl 0 rfl) ?_
                refine n_if_eq (tgt := 119) hx hb d_W_takeSum_102 (by decide) (by omega) (fun hw9 => ?_) (fun hw9 => ?_)
                · refine lv_iconst (v := nI 0) hx hb d_W_takeSum_119 (by decide +kernel) ?_
                  refine wp_Whole_below hx hb hC hw (by omega) (zb0) (zf0) bw_57 d_W_takeSum_120 (fun H locs hw => ?_)
                  have e9 : bI (sB false (true != false) (V i) (V j)) = nI 0 := by unfold sB; rw [eS]; rfl
                  rw [← e9] at hw
                  exact hret _ _ _ _ hw d_W_takeSum_123
                · exact absurd hw9 (by decide)
          · exact absurd hw9 (by decide)
      · have hl : lv_has ls 6 [(0, .ref (wa T (68 + k))), (1, .ref (wa T (68 + i))), (2, .ref (wa T (68 + j))), (3, .int (nI 1))] := hl
        refine lv_aload_n hx hb d_W_takeSum_0 rfl (lv_at hl 2 rfl) ?_
        refine wg_Whole_below hx hb hC hw (by omega) bw_57 d_W_takeSum_1 ?_
        refine sw_i (y := nI 1) (hKj) ?_
        refine lv_iload_n hx hb d_W_takeSum_4 rfl (lv_at hl 3 rfl) ?_
        refine n_icmp_eq (tgt := 12) hx hb d_W_takeSum_5 (by decide) (by omega) (by omega) (fun hw9 => ?_) (fun hw9 => ?_)
        · refine lv_iconst (v := nI 0) hx hb d_W_takeSum_12 (by decide +kernel) ?_
          refine lv_istore hx hb d_W_takeSum_13 hl (by decide) rfl (fun ls hl => ?_)
          have hl : lv_has ls 6 [(4, .int (nI 0)), (0, .ref (wa T (68 + k))), (1, .ref (wa T (68 + i))), (2, .ref (wa T (68 + j))), (3, .int (nI 1))] := hl
          refine lv_aload_n hx hb d_W_takeSum_15 rfl (lv_at hl 2 rfl) ?_
          refine wg_Whole_below hx hb hC hw (by omega) bw_57 d_W_takeSum_16 ?_
          refine sw_i (y := nI 0) (hKi) ?_
          refine lv_istore hx hb d_W_takeSum_19 hl (by decide) rfl (fun ls hl => ?_)
          have hl : lv_has ls 6 [(5, .int (nI 0)), (4, .int (nI 0)), (0, .ref (wa T (68 + k))), (1, .ref (wa T (68 + i))), (2, .ref (wa T (68 + j))), (3, .int (nI 1))] := hl
          refine lv_aload_n hx hb d_W_takeSum_21 rfl (lv_at hl 3 rfl) ?_
          refine wg_Whole_below hx hb hC hw (by omega) bw_57 d_W_takeSum_22 ?_
          refine sw_i (y := nI 0) (hKi) ?_
          refine lv_iload hx hb d_W_takeSum_25 (lv_at hl 1 rfl) ?_
          refine n_icmp_ne (tgt := 48) hx hb d_W_takeSum_27 (by decide) (by omega) (by omega) (fun hw9 => ?_) (fun hw9 => ?_)
          · exact absurd hw9 (by decide)
          · refine lv_aload_n hx hb d_W_takeSum_30 rfl (lv_at hl 2 rfl) ?_
            refine wg_Whole_size hx hb hC hw (by omega) bw_53 d_W_takeSum_31 ?_
            refine lv_aload_n hx hb d_W_takeSum_34 rfl (lv_at hl 3 rfl) ?_
            refine wg_Whole_size hx hb hC hw (by omega) bw_53 d_W_takeSum_35 ?_
            refine lv_aload_n hx hb d_W_takeSum_38 rfl (lv_at hl 4 rfl) ?_
            refine wg_Whole_size hx hb hC hw (by omega) bw_53 d_W_takeSum_39 ?_
            refine wcV_v (As := [.ref (wa T i), .ref (wa T j)]) hx hb hC hw (k_N_takeSum l T V K I O k i j (by omega) (by omega) (by omega) hki hkj hV) lk_W_32 rfl rfl ⟨by show 1 + 1 ≤ R.frames; omega, by show 8 + (7 + 11) + 22 ≤ R.locals; omega⟩ (by omega) (we_Natural (by omega)) rfl rfl hl.1 rfl (Nat.le_of_ble_eq_true rfl) ⟨Nat.zero_le _, Nat.zero_le _⟩ d_W_takeSum_42 (fun H locs hw => ?_)
            refine lv_goto (tgt := 99) hx hb d_W_takeSum_45 (by decide) ?_
            have eV : sV false (true != true) (V i) (V j) = V i + V j := by rfl
            have eS : sG false (true != true) (V i) (V j) = false := by rfl
            rw [← eV] at hw
            refine lv_aload_n hx hb d_W_takeSum_99 rfl (lv_at hl 2 rfl) ?_
            refine lv_iload hx hb d_W_takeSum_100 (lv_at hl 0 rfl) ?_
            refine n_if_eq (tgt := 119) hx hb d_W_takeSum_102 (by decide) (by omega) (fun hw9 => ?_) (fun hw9 => ?_)
            · refine lv_iconst (v := nI 0) hx hb d_W_takeSum_119 (by decide +kernel) ?_
              refine wp_Whole_below hx hb hC hw (by omega) (zb0) (zf0) bw_57 d_W_takeSum_120 (fun H locs hw => ?_)
              have e9 : bI (sB false (true != true) (V i) (V j)) = nI 0 := by unfold sB; rw [eS]; rfl
              rw [← e9] at hw
              exact hret _ _ _ _ hw d_W_takeSum_123
            · exact absurd hw9 (by decide)
        · exact absurd hw9 (by decide)
  · cases bj
    · cases tu
      · have hl : lv_has ls 6 [(0, .ref (wa T (68 + k))), (1, .ref (wa T (68 + i))), (2, .ref (wa T (68 + j))), (3, .int (nI 0))] := hl
        refine lv_aload_n hx hb d_W_takeSum_0 rfl (lv_at hl 2 rfl) ?_
        refine wg_Whole_below hx hb hC hw (by omega) bw_57 d_W_takeSum_1 ?_
        refine sw_i (y := nI 0) (hKj) ?_
        refine lv_iload_n hx hb d_W_takeSum_4 rfl (lv_at hl 3 rfl) ?_
        refine n_icmp_eq (tgt := 12) hx hb d_W_takeSum_5 (by decide) (by omega) (by omega) (fun hw9 => ?_) (fun hw9 => ?_)
        · refine lv_iconst (v := nI 0) hx hb d_W_takeSum_12 (by decide +kernel) ?_
          refine lv_istore hx hb d_W_takeSum_13 hl (by decide) rfl (fun ls hl => ?_)
          have hl : lv_has ls 6 [(4, .int (nI 0)), (0, .ref (wa T (68 + k))), (1, .ref (wa T (68 + i))), (2, .ref (wa T (68 + j))), (3, .int (nI 0))] := hl
          refine lv_aload_n hx hb d_W_takeSum_15 rfl (lv_at hl 2 rfl) ?_
          refine wg_Whole_below hx hb hC hw (by omega) bw_57 d_W_takeSum_16 ?_
          refine sw_i (y := nI 1) (hKi) ?_
          refine lv_istore hx hb d_W_takeSum_19 hl (by decide) rfl (fun ls hl => ?_)
          have hl : lv_has ls 6 [(5, .int (nI 1)), (4, .int (nI 0)), (0, .ref (wa T (68 + k))), (1, .ref (wa T (68 + i))), (2, .ref (wa T (68 + j))), (3, .int (nI 0))] := hl
          refine lv_aload_n hx hb d_W_takeSum_21 rfl (lv_at hl 3 rfl) ?_
          refine wg_Whole_below hx hb hC hw (by omega) bw_57 d_W_takeSum_22 ?_
          refine sw_i (y := nI 1) (hKi) ?_
          refine lv_iload hx hb d_W_takeSum_25 (lv_at hl 1 rfl) ?_
          refine n_icmp_ne (tgt := 48) hx hb d_W_takeSum_27 (by decide) (by omega) (by omega) (fun hw9 => ?_) (fun hw9 => ?_)
          · refine lv_aload_n hx hb d_W_takeSum_48 rfl (lv_at hl 3 rfl) ?_
            refine wg_Whole_size hx hb hC hw (by omega) bw_53 d_W_takeSum_49 ?_
            refine lv_aload_n hx hb d_W_takeSum_52 rfl (lv_at hl 4 rfl) ?_
            refine wg_Whole_size hx hb hC hw (by omega) bw_53 d_W_takeSum_53 ?_
            refine wcV_i (As := [.ref (wa T j)]) hx hb hC hw (k_N_order l T V K I O i j (by omega) (by omega) hV) lk_W_36 rfl rfl ⟨by show 0 + 1 ≤ R.frames; omega, by show 8 + (3 + 11) + 0 ≤ R.locals; omega⟩ (by omega) (we_Natural (by omega)) rfl rfl hl.1 rfl (Nat.le_of_ble_eq_true rfl) ⟨Nat.zero_le _, Nat.zero_le _⟩ d_W_takeSum_56 (fun H locs hw => ?_)
            by_cases hlt : V i < V j
            · refine sw_i (y := -1) (by rw [if_pos hlt]) ?_
              refine lv_if_lt (tgt := 80) hx hb d_W_takeSum_59 (by decide) (fun h9 => ?_) (fun h9 => ?_)
              · refine lv_aload_n hx hb d_W_takeSum_80 rfl (lv_at hl 2 rfl) ?_
                refine wg_Whole_size hx hb hC hw (by omega) bw_53 d_W_takeSum_81 ?_
                refine lv_aload_n hx hb d_W_takeSum_84 rfl (lv_at hl 4 rfl) ?_
                refine wg_Whole_size hx hb hC hw (by omega) bw_53 d_W_takeSum_85 ?_
                refine lv_aload_n hx hb d_W_takeSum_88 rfl (lv_at hl 3 rfl) ?_
                refine wg_Whole_size hx hb hC hw (by omega) bw_53 d_W_takeSum_89 ?_
                refine wcV_v (As := [.ref (wa T j), .ref (wa T i)]) hx hb hC hw (k_N_takeDifference l T V K I O k j i (by omega) (by omega) (by omega) (by omega) hV) lk_W_40 rfl rfl ⟨by show 1 + 1 ≤ R.frames; omega, by show 8 + (7 + 11) + 22 ≤ R.locals; omega⟩ (by omega) (we_Natural (by omega)) rfl rfl hl.1 rfl (Nat.le_of_ble_eq_true rfl) ⟨Nat.zero_le _, Nat.zero_le _⟩ d_W_takeSum_92 (fun H locs hw => ?_)
                refine lv_iload hx hb d_W_takeSum_95 (lv_at hl 1 rfl) ?_
                refine lv_istore hx hb d_W_takeSum_97 hl (by decide) rfl (fun ls hl => ?_)
                have hl : lv_has ls 6 [(5, .int (nI 0)), (4, .int (nI 0)), (0, .ref (wa T (68 + k))), (1, .ref (wa T (68 + i))), (2, .ref (wa T (68 + j))), (3, .int (nI 0))] := hl
                have eV : sV true (false != false) (V i) (V j) = V j - V i := by unfold sV; rw [if_neg (by decide), if_neg (by omega)]
                have eS : sG true (false != false) (V i) (V j) = false := by unfold sG; rw [if_neg (by decide), if_neg (by omega)]; rfl
                rw [← eV] at hw
                refine lv_aload_n hx hb d_W_takeSum_99 rfl (lv_at hl 2 rfl) ?_
                refine lv_iload hx hb d_W_takeSum_100 (lv_at hl 0 rfl) ?_
                refine n_if_eq (tgt := 119) hx hb d_W_takeSum_102 (by decide) (by omega) (fun hw9 => ?_) (fun hw9 => ?_)
                · refine lv_iconst (v := nI 0) hx hb d_W_takeSum_119 (by decide +kernel) ?_
                  refine wp_Whole_below hx hb hC hw (by omega) (zb0) (zf0) bw_57 d_W_takeSum_120 (fun H locs hw => ?_)
                  have e9 : bI (sB true (false != false) (V i) (V j)) = nI 0 := by unfold sB; rw [eS]; rfl
                  rw [← e9] at hw
                  exact hret _ _ _ _ hw d_W_takeSum_123
                · exact absurd hw9 (by decide)
              · exact absurd (by decide +kernel) h9
            · refine sw_i (y := if V i = V j then 0 else 1) (by rw [if_neg hlt]) ?_
              refine lv_if_lt (tgt := 80) hx hb d_W_takeSum_59 (by decide) (fun h9 => ?_) (fun h9 => ?_)
              · exact absurd h9 (by split <;> decide +kernel)
              · refine lv_aload_n hx hb d_W_takeSum_62 rfl (lv_at hl 2 rfl) ?_
                refine wg_Whole_size hx hb hC hw (by omega) bw_53 d_W_takeSum_63 ?_
                refine lv_aload_n hx hb d_W_takeSum_66 rfl (lv_at hl 3 rfl) ?_
                refine wg_Whole_size hx hb hC hw (by omega) bw_53 d_W_takeSum_67 ?_
                refine lv_aload_n hx hb d_W_takeSum_70 rfl (lv_at hl 4 rfl) ?_
                refine wg_Whole_size hx hb hC hw (by omega) bw_53 d_W_takeSum_71 ?_
                refine wcV_v (As := [.ref (wa T i), .ref (wa T j)]) hx hb hC hw (k_N_takeDifference l T V K I O k i j (by omega) (by omega) (by omega) (by omega) hV) lk_W_40 rfl rfl ⟨by show 1 + 1 ≤ R.frames; omega, by show 8 + (7 + 11) + 22 ≤ R.locals; omega⟩ (by omega) (we_Natural (by omega)) rfl rfl hl.1 rfl (Nat.le_of_ble_eq_true rfl) ⟨Nat.zero_le _, Nat.zero_le _⟩ d_W_takeSum_74 (fun H locs hw => ?_)
                refine lv_goto (tgt := 99) hx hb d_W_takeSum_77 (by decide) ?_
                have eV : sV true (false != false) (V i) (V j) = V i - V j := by unfold sV; rw [if_neg (by decide), if_pos (by omega)]
                have eS : sG true (false != false) (V i) (V j) = true := by unfold sG; rw [if_neg (by decide), if_pos (by omega)]
                rw [← eV] at hw
                refine lv_aload_n hx hb d_W_takeSum_99 rfl (lv_at hl 2 rfl) ?_
                refine lv_iload hx hb d_W_takeSum_100 (lv_at hl 0 rfl) ?_
                refine n_if_eq (tgt := 119) hx hb d_W_takeSum_102 (by decide) (by omega) (fun hw9 => ?_) (fun hw9 => ?_)
                · exact absurd hw9 (by decide)
                · refine lv_aload_n hx hb d_W_takeSum_105 rfl (lv_at hl 2 rfl) ?_
                  refine wg_Whole_size hx hb hC hw (by omega) bw_53 d_W_takeSum_106 ?_
                  refine wcV_z (As := []) hx hb hC hw (k_N_isZero l T (va_up V k (sV true (false != false) (V i) (V j))) K I O k (by omega) (hV_up hV (hsl _ _))) lk_W_24 rfl rfl ⟨by show 0 + 1 ≤ R.frames; omega, by show 8 + (1 + 11) + 0 ≤ R.locals; omega⟩ (by omega) (we_Natural (by omega)) rfl rfl hl.1 rfl (Nat.le_of_ble_eq_true rfl) ⟨Nat.zero_le _, Nat.zero_le _⟩ d_W_takeSum_109 (fun H locs hw => ?_)
                  by_cases hz : (va_up V k (sV true (false != false) (V i) (V j))) k = 0
                  · refine sw_i (y := nI 1) (by rw [if_pos hz]; rfl) ?_
                    refine n_if_ne (tgt := 119) hx hb d_W_takeSum_112 (by decide) (by omega) (fun hw9 => ?_) (fun hw9 => ?_)
                    · rw [va_up_self] at hz
                      refine lv_iconst (v := nI 0) hx hb d_W_takeSum_119 (by decide +kernel) ?_
                      refine wp_Whole_below hx hb hC hw (by omega) (zb0) (zf0) bw_57 d_W_takeSum_120 (fun H locs hw => ?_)
                      have e9 : bI (sB true (false != false) (V i) (V j)) = nI 0 := by unfold sB; rw [eS, decide_eq_true hz]; rfl
                      rw [← e9] at hw
                      exact hret _ _ _ _ hw d_W_takeSum_123
                    · exact absurd hw9 (by decide)
                  · refine sw_i (y := nI 0) (by rw [if_neg hz]; rfl) ?_
                    refine n_if_ne (tgt := 119) hx hb d_W_takeSum_112 (by decide) (by omega) (fun hw9 => ?_) (fun hw9 => ?_)
                    · exact absurd hw9 (by decide)
                    · rw [va_up_self] at hz
                      refine lv_iconst (v := nI 1) hx hb d_W_takeSum_115 (by decide +kernel) ?_
                      refine lv_goto (tgt := 120) hx hb d_W_takeSum_116 (by decide) ?_
                      refine wp_Whole_below hx hb hC hw (by omega) (zb1) (zf1) bw_57 d_W_takeSum_120 (fun H locs hw => ?_)
                      have e9 : bI (sB true (false != false) (V i) (V j)) = nI 1 := by unfold sB; rw [eS, decide_eq_false hz]; rfl
                      rw [← e9] at hw
                      exact hret _ _ _ _ hw d_W_takeSum_123
          · exact absurd hw9 (by decide)
        · exact absurd hw9 (by decide)
      · have hl : lv_has ls 6 [(0, .ref (wa T (68 + k))), (1, .ref (wa T (68 + i))), (2, .ref (wa T (68 + j))), (3, .int (nI 1))] := hl
        refine lv_aload_n hx hb d_W_takeSum_0 rfl (lv_at hl 2 rfl) ?_
        refine wg_Whole_below hx hb hC hw (by omega) bw_57 d_W_takeSum_1 ?_
        refine sw_i (y := nI 0) (hKj) ?_
        refine lv_iload_n hx hb d_W_takeSum_4 rfl (lv_at hl 3 rfl) ?_
        refine n_icmp_eq (tgt := 12) hx hb d_W_takeSum_5 (by decide) (by omega) (by omega) (fun hw9 => ?_) (fun hw9 => ?_)
        · exact absurd hw9 (by decide)
        · refine lv_iconst (v := nI 1) hx hb d_W_takeSum_8 (by decide +kernel) ?_
          refine lv_goto (tgt := 13) hx hb d_W_takeSum_9 (by decide) ?_
          refine lv_istore hx hb d_W_takeSum_13 hl (by decide) rfl (fun ls hl => ?_)
          have hl : lv_has ls 6 [(4, .int (nI 1)), (0, .ref (wa T (68 + k))), (1, .ref (wa T (68 + i))), (2, .ref (wa T (68 + j))), (3, .int (nI 1))] := hl
          refine lv_aload_n hx hb d_W_takeSum_15 rfl (lv_at hl 2 rfl) ?_
          refine wg_Whole_below hx hb hC hw (by omega) bw_57 d_W_takeSum_16 ?_
          refine sw_i (y := nI 1) (hKi) ?_
          refine lv_istore hx hb d_W_takeSum_19 hl (by decide) rfl (fun ls hl => ?_)
          have hl : lv_has ls 6 [(5, .int (nI 1)), (4, .int (nI 1)), (0, .ref (wa T (68 + k))), (1, .ref (wa T (68 + i))), (2, .ref (wa T (68 + j))), (3, .int (nI 1))] := hl
          refine lv_aload_n hx hb d_W_takeSum_21 rfl (lv_at hl 3 rfl) ?_
          refine wg_Whole_below hx hb hC hw (by omega) bw_57 d_W_takeSum_22 ?_
          refine sw_i (y := nI 1) (hKi) ?_
          refine lv_iload hx hb d_W_takeSum_25 (lv_at hl 1 rfl) ?_
          refine n_icmp_ne (tgt := 48) hx hb d_W_takeSum_27 (by decide) (by omega) (by omega) (fun hw9 => ?_) (fun hw9 => ?_)
          · exact absurd hw9 (by decide)
          · refine lv_aload_n hx hb d_W_takeSum_30 rfl (lv_at hl 2 rfl) ?_
            refine wg_Whole_size hx hb hC hw (by omega) bw_53 d_W_takeSum_31 ?_
            refine lv_aload_n hx hb d_W_takeSum_34 rfl (lv_at hl 3 rfl) ?_
            refine wg_Whole_size hx hb hC hw (by omega) bw_53 d_W_takeSum_35 ?_
            refine lv_aload_n hx hb d_W_takeSum_38 rfl (lv_at hl 4 rfl) ?_
            refine wg_Whole_size hx hb hC hw (by omega) bw_53 d_W_takeSum_39 ?_
            refine wcV_v (As := [.ref (wa T i), .ref (wa T j)]) hx hb hC hw (k_N_takeSum l T V K I O k i j (by omega) (by omega) (by omega) hki hkj hV) lk_W_32 rfl rfl ⟨by show 1 + 1 ≤ R.frames; omega, by show 8 + (7 + 11) + 22 ≤ R.locals; omega⟩ (by omega) (we_Natural (by omega)) rfl rfl hl.1 rfl (Nat.le_of_ble_eq_true rfl) ⟨Nat.zero_le _, Nat.zero_le _⟩ d_W_takeSum_42 (fun H locs hw => ?_)
            refine lv_goto (tgt := 99) hx hb d_W_takeSum_45 (by decide) ?_
            have eV : sV true (false != true) (V i) (V j) = V i + V j := by rfl
            have eS : sG true (false != true) (V i) (V j) = true := by rfl
            rw [← eV] at hw
            refine lv_aload_n hx hb d_W_takeSum_99 rfl (lv_at hl 2 rfl) ?_
            refine lv_iload hx hb d_W_takeSum_100 (lv_at hl 0 rfl) ?_
            refine n_if_eq (tgt := 119) hx hb d_W_takeSum_102 (by decide) (by omega) (fun hw9 => ?_) (fun hw9 => ?_)
            · exact absurd hw9 (by decide)
            · refine lv_aload_n hx hb d_W_takeSum_105 rfl (lv_at hl 2 rfl) ?_
              refine wg_Whole_size hx hb hC hw (by omega) bw_53 d_W_takeSum_106 ?_
              refine wcV_z (As := []) hx hb hC hw (k_N_isZero l T (va_up V k (sV true (false != true) (V i) (V j))) K I O k (by omega) (hV_up hV (hsl _ _))) lk_W_24 rfl rfl ⟨by show 0 + 1 ≤ R.frames; omega, by show 8 + (1 + 11) + 0 ≤ R.locals; omega⟩ (by omega) (we_Natural (by omega)) rfl rfl hl.1 rfl (Nat.le_of_ble_eq_true rfl) ⟨Nat.zero_le _, Nat.zero_le _⟩ d_W_takeSum_109 (fun H locs hw => ?_)
              by_cases hz : (va_up V k (sV true (false != true) (V i) (V j))) k = 0
              · refine sw_i (y := nI 1) (by rw [if_pos hz]; rfl) ?_
                refine n_if_ne (tgt := 119) hx hb d_W_takeSum_112 (by decide) (by omega) (fun hw9 => ?_) (fun hw9 => ?_)
                · rw [va_up_self] at hz
                  refine lv_iconst (v := nI 0) hx hb d_W_takeSum_119 (by decide +kernel) ?_
                  refine wp_Whole_below hx hb hC hw (by omega) (zb0) (zf0) bw_57 d_W_takeSum_120 (fun H locs hw => ?_)
                  have e9 : bI (sB true (false != true) (V i) (V j)) = nI 0 := by unfold sB; rw [eS, decide_eq_true hz]; rfl
                  rw [← e9] at hw
                  exact hret _ _ _ _ hw d_W_takeSum_123
                · exact absurd hw9 (by decide)
              · refine sw_i (y := nI 0) (by rw [if_neg hz]; rfl) ?_
                refine n_if_ne (tgt := 119) hx hb d_W_takeSum_112 (by decide) (by omega) (fun hw9 => ?_) (fun hw9 => ?_)
                · exact absurd hw9 (by decide)
                · rw [va_up_self] at hz
                  refine lv_iconst (v := nI 1) hx hb d_W_takeSum_115 (by decide +kernel) ?_
                  refine lv_goto (tgt := 120) hx hb d_W_takeSum_116 (by decide) ?_
                  refine wp_Whole_below hx hb hC hw (by omega) (zb1) (zf1) bw_57 d_W_takeSum_120 (fun H locs hw => ?_)
                  have e9 : bI (sB true (false != true) (V i) (V j)) = nI 1 := by unfold sB; rw [eS, decide_eq_false hz]; rfl
                  rw [← e9] at hw
                  exact hret _ _ _ _ hw d_W_takeSum_123
    · cases tu
      · have hl : lv_has ls 6 [(0, .ref (wa T (68 + k))), (1, .ref (wa T (68 + i))), (2, .ref (wa T (68 + j))), (3, .int (nI 0))] := hl
        refine lv_aload_n hx hb d_W_takeSum_0 rfl (lv_at hl 2 rfl) ?_
        refine wg_Whole_below hx hb hC hw (by omega) bw_57 d_W_takeSum_1 ?_
        refine sw_i (y := nI 1) (hKj) ?_
        refine lv_iload_n hx hb d_W_takeSum_4 rfl (lv_at hl 3 rfl) ?_
        refine n_icmp_eq (tgt := 12) hx hb d_W_takeSum_5 (by decide) (by omega) (by omega) (fun hw9 => ?_) (fun hw9 => ?_)
        · exact absurd hw9 (by decide)
        · refine lv_iconst (v := nI 1) hx hb d_W_takeSum_8 (by decide +kernel) ?_
          refine lv_goto (tgt := 13) hx hb d_W_takeSum_9 (by decide) ?_
          refine lv_istore hx hb d_W_takeSum_13 hl (by decide) rfl (fun ls hl => ?_)
          have hl : lv_has ls 6 [(4, .int (nI 1)), (0, .ref (wa T (68 + k))), (1, .ref (wa T (68 + i))), (2, .ref (wa T (68 + j))), (3, .int (nI 0))] := hl
          refine lv_aload_n hx hb d_W_takeSum_15 rfl (lv_at hl 2 rfl) ?_
          refine wg_Whole_below hx hb hC hw (by omega) bw_57 d_W_takeSum_16 ?_
          refine sw_i (y := nI 1) (hKi) ?_
          refine lv_istore hx hb d_W_takeSum_19 hl (by decide) rfl (fun ls hl => ?_)
          have hl : lv_has ls 6 [(5, .int (nI 1)), (4, .int (nI 1)), (0, .ref (wa T (68 + k))), (1, .ref (wa T (68 + i))), (2, .ref (wa T (68 + j))), (3, .int (nI 0))] := hl
          refine lv_aload_n hx hb d_W_takeSum_21 rfl (lv_at hl 3 rfl) ?_
          refine wg_Whole_below hx hb hC hw (by omega) bw_57 d_W_takeSum_22 ?_
          refine sw_i (y := nI 1) (hKi) ?_
          refine lv_iload hx hb d_W_takeSum_25 (lv_at hl 1 rfl) ?_
          refine n_icmp_ne (tgt := 48) hx hb d_W_takeSum_27 (by decide) (by omega) (by omega) (fun hw9 => ?_) (fun hw9 => ?_)
          · exact absurd hw9 (by decide)
          · refine lv_aload_n hx hb d_W_takeSum_30 rfl (lv_at hl 2 rfl) ?_
            refine wg_Whole_size hx hb hC hw (by omega) bw_53 d_W_takeSum_31 ?_
            refine lv_aload_n hx hb d_W_takeSum_34 rfl (lv_at hl 3 rfl) ?_
            refine wg_Whole_size hx hb hC hw (by omega) bw_53 d_W_takeSum_35 ?_
            refine lv_aload_n hx hb d_W_takeSum_38 rfl (lv_at hl 4 rfl) ?_
            refine wg_Whole_size hx hb hC hw (by omega) bw_53 d_W_takeSum_39 ?_
            refine wcV_v (As := [.ref (wa T i), .ref (wa T j)]) hx hb hC hw (k_N_takeSum l T V K I O k i j (by omega) (by omega) (by omega) hki hkj hV) lk_W_32 rfl rfl ⟨by show 1 + 1 ≤ R.frames; omega, by show 8 + (7 + 11) + 22 ≤ R.locals; omega⟩ (by omega) (we_Natural (by omega)) rfl rfl hl.1 rfl (Nat.le_of_ble_eq_true rfl) ⟨Nat.zero_le _, Nat.zero_le _⟩ d_W_takeSum_42 (fun H locs hw => ?_)
            refine lv_goto (tgt := 99) hx hb d_W_takeSum_45 (by decide) ?_
            have eV : sV true (true != false) (V i) (V j) = V i + V j := by rfl
            have eS : sG true (true != false) (V i) (V j) = true := by rfl
            rw [← eV] at hw
            refine lv_aload_n hx hb d_W_takeSum_99 rfl (lv_at hl 2 rfl) ?_
            refine lv_iload hx hb d_W_takeSum_100 (lv_at hl 0 rfl) ?_
            refine n_if_eq (tgt := 119) hx hb d_W_takeSum_102 (by decide) (by omega) (fun hw9 => ?_) (fun hw9 => ?_)
            · exact absurd hw9 (by decide)
            · refine lv_aload_n hx hb d_W_takeSum_105 rfl (lv_at hl 2 rfl) ?_
              refine wg_Whole_size hx hb hC hw (by omega) bw_53 d_W_takeSum_106 ?_
              refine wcV_z (As := []) hx hb hC hw (k_N_isZero l T (va_up V k (sV true (true != false) (V i) (V j))) K I O k (by omega) (hV_up hV (hsl _ _))) lk_W_24 rfl rfl ⟨by show 0 + 1 ≤ R.frames; omega, by show 8 + (1 + 11) + 0 ≤ R.locals; omega⟩ (by omega) (we_Natural (by omega)) rfl rfl hl.1 rfl (Nat.le_of_ble_eq_true rfl) ⟨Nat.zero_le _, Nat.zero_le _⟩ d_W_takeSum_109 (fun H locs hw => ?_)
              by_cases hz : (va_up V k (sV true (true != false) (V i) (V j))) k = 0
              · refine sw_i (y := nI 1) (by rw [if_pos hz]; rfl) ?_
                refine n_if_ne (tgt := 119) hx hb d_W_takeSum_112 (by decide) (by omega) (fun hw9 => ?_) (fun hw9 => ?_)
                · rw [va_up_self] at hz
                  refine lv_iconst (v := nI 0) hx hb d_W_takeSum_119 (by decide +kernel) ?_
                  refine wp_Whole_below hx hb hC hw (by omega) (zb0) (zf0) bw_57 d_W_takeSum_120 (fun H locs hw => ?_)
                  have e9 : bI (sB true (true != false) (V i) (V j)) = nI 0 := by unfold sB; rw [eS, decide_eq_true hz]; rfl
                  rw [← e9] at hw
                  exact hret _ _ _ _ hw d_W_takeSum_123
                · exact absurd hw9 (by decide)
              · refine sw_i (y := nI 0) (by rw [if_neg hz]; rfl) ?_
                refine n_if_ne (tgt := 119) hx hb d_W_takeSum_112 (by decide) (by omega) (fun hw9 => ?_) (fun hw9 => ?_)
                · exact absurd hw9 (by decide)
                · rw [va_up_self] at hz
                  refine lv_iconst (v := nI 1) hx hb d_W_takeSum_115 (by decide +kernel) ?_
                  refine lv_goto (tgt := 120) hx hb d_W_takeSum_116 (by decide) ?_
                  refine wp_Whole_below hx hb hC hw (by omega) (zb1) (zf1) bw_57 d_W_takeSum_120 (fun H locs hw => ?_)
                  have e9 : bI (sB true (true != false) (V i) (V j)) = nI 1 := by unfold sB; rw [eS, decide_eq_false hz]; rfl
                  rw [← e9] at hw
                  exact hret _ _ _ _ hw d_W_takeSum_123
      · have hl : lv_has ls 6 [(0, .ref (wa T (68 + k))), (1, .ref (wa T (68 + i))), (2, .ref (wa T (68 + j))), (3, .int (nI 1))] := hl
        refine lv_aload_n hx hb d_W_takeSum_0 rfl (lv_at hl 2 rfl) ?_
        refine wg_Whole_below hx hb hC hw (by omega) bw_57 d_W_takeSum_1 ?_
        refine sw_i (y := nI 1) (hKj) ?_
        refine lv_iload_n hx hb d_W_takeSum_4 rfl (lv_at hl 3 rfl) ?_
        refine n_icmp_eq (tgt := 12) hx hb d_W_takeSum_5 (by decide) (by omega) (by omega) (fun hw9 => ?_) (fun hw9 => ?_)
        · refine lv_iconst (v := nI 0) hx hb d_W_takeSum_12 (by decide +kernel) ?_
          refine lv_istore hx hb d_W_takeSum_13 hl (by decide) rfl (fun ls hl => ?_)
          have hl : lv_has ls 6 [(4, .int (nI 0)), (0, .ref (wa T (68 + k))), (1, .ref (wa T (68 + i))), (2, .ref (wa T (68 + j))), (3, .int (nI 1))] := hl
          refine lv_aload_n hx hb d_W_takeSum_15 rfl (lv_at hl 2 rfl) ?_
          refine wg_Whole_below hx hb hC hw (by omega) bw_57 d_W_takeSum_16 ?_
          refine sw_i (y := nI 1) (hKi) ?_
          refine lv_istore hx hb d_W_takeSum_19 hl (by decide) rfl (fun ls hl => ?_)
          have hl : lv_has ls 6 [(5, .int (nI 1)), (4, .int (nI 0)), (0, .ref (wa T (68 + k))), (1, .ref (wa T (68 + i))), (2, .ref (wa T (68 + j))), (3, .int (nI 1))] := hl
          refine lv_aload_n hx hb d_W_takeSum_21 rfl (lv_at hl 3 rfl) ?_
          refine wg_Whole_below hx hb hC hw (by omega) bw_57 d_W_takeSum_22 ?_
          refine sw_i (y := nI 1) (hKi) ?_
          refine lv_iload hx hb d_W_takeSum_25 (lv_at hl 1 rfl) ?_
          refine n_icmp_ne (tgt := 48) hx hb d_W_takeSum_27 (by decide) (by omega) (by omega) (fun hw9 => ?_) (fun hw9 => ?_)
          · refine lv_aload_n hx hb d_W_takeSum_48 rfl (lv_at hl 3 rfl) ?_
            refine wg_Whole_size hx hb hC hw (by omega) bw_53 d_W_takeSum_49 ?_
            refine lv_aload_n hx hb d_W_takeSum_52 rfl (lv_at hl 4 rfl) ?_
            refine wg_Whole_size hx hb hC hw (by omega) bw_53 d_W_takeSum_53 ?_
            refine wcV_i (As := [.ref (wa T j)]) hx hb hC hw (k_N_order l T V K I O i j (by omega) (by omega) hV) lk_W_36 rfl rfl ⟨by show 0 + 1 ≤ R.frames; omega, by show 8 + (3 + 11) + 0 ≤ R.locals; omega⟩ (by omega) (we_Natural (by omega)) rfl rfl hl.1 rfl (Nat.le_of_ble_eq_true rfl) ⟨Nat.zero_le _, Nat.zero_le _⟩ d_W_takeSum_56 (fun H locs hw => ?_)
            by_cases hlt : V i < V j
            · refine sw_i (y := -1) (by rw [if_pos hlt]) ?_
              refine lv_if_lt (tgt := 80) hx hb d_W_takeSum_59 (by decide) (fun h9 => ?_) (fun h9 => ?_)
              · refine lv_aload_n hx hb d_W_takeSum_80 rfl (lv_at hl 2 rfl) ?_
                refine wg_Whole_size hx hb hC hw (by omega) bw_53 d_W_takeSum_81 ?_
                refine lv_aload_n hx hb d_W_takeSum_84 rfl (lv_at hl 4 rfl) ?_
                refine wg_Whole_size hx hb hC hw (by omega) bw_53 d_W_takeSum_85 ?_
                refine lv_aload_n hx hb d_W_takeSum_88 rfl (lv_at hl 3 rfl) ?_
                refine wg_Whole_size hx hb hC hw (by omega) bw_53 d_W_takeSum_89 ?_
                refine wcV_v (As := [.ref (wa T j), .ref (wa T i)]) hx hb hC hw (k_N_takeDifference l T V K I O k j i (by omega) (by omega) (by omega) (by omega) hV) lk_W_40 rfl rfl ⟨by show 1 + 1 ≤ R.frames; omega, by show 8 + (7 + 11) + 22 ≤ R.locals; omega⟩ (by omega) (we_Natural (by omega)) rfl rfl hl.1 rfl (Nat.le_of_ble_eq_true rfl) ⟨Nat.zero_le _, Nat.zero_le _⟩ d_W_takeSum_92 (fun H locs hw => ?_)
                refine lv_iload hx hb d_W_takeSum_95 (lv_at hl 1 rfl) ?_
                refine lv_istore hx hb d_W_takeSum_97 hl (by decide) rfl (fun ls hl => ?_)
                have hl : lv_has ls 6 [(5, .int (nI 0)), (4, .int (nI 0)), (0, .ref (wa T (68 + k))), (1, .ref (wa T (68 + i))), (2, .ref (wa T (68 + j))), (3, .int (nI 1))] := hl
                have eV : sV true (true != true) (V i) (V j) = V j - V i := by unfold sV; rw [if_neg (by decide), if_neg (by omega)]
                have eS : sG true (true != true) (V i) (V j) = false := by unfold sG; rw [if_neg (by decide), if_neg (by omega)]; rfl
                rw [← eV] at hw
                refine lv_aload_n hx hb d_W_takeSum_99 rfl (lv_at hl 2 rfl) ?_
                refine lv_iload hx hb d_W_takeSum_100 (lv_at hl 0 rfl) ?_
                refine n_if_eq (tgt := 119) hx hb d_W_takeSum_102 (by decide) (by omega) (fun hw9 => ?_) (fun hw9 => ?_)
                · refine lv_iconst (v := nI 0) hx hb d_W_takeSum_119 (by decide +kernel) ?_
                  refine wp_Whole_below hx hb hC hw (by omega) (zb0) (zf0) bw_57 d_W_takeSum_120 (fun H locs hw => ?_)
                  have e9 : bI (sB true (true != true) (V i) (V j)) = nI 0 := by unfold sB; rw [eS]; rfl
                  rw [← e9] at hw
                  exact hret _ _ _ _ hw d_W_takeSum_123
                · exact absurd hw9 (by decide)
              · exact absurd (by decide +kernel) h9
            · refine sw_i (y := if V i = V j then 0 else 1) (by rw [if_neg hlt]) ?_
              refine lv_if_lt (tgt := 80) hx hb d_W_takeSum_59 (by decide) (fun h9 => ?_) (fun h9 => ?_)
              · exact absurd h9 (by split <;> decide +kernel)
              · refine lv_aload_n hx hb d_W_takeSum_62 rfl (lv_at hl 2 rfl) ?_
                refine wg_Whole_size hx hb hC hw (by omega) bw_53 d_W_takeSum_63 ?_
                refine lv_aload_n hx hb d_W_takeSum_66 rfl (lv_at hl 3 rfl) ?_
                refine wg_Whole_size hx hb hC hw (by omega) bw_53 d_W_takeSum_67 ?_
                refine lv_aload_n hx hb d_W_takeSum_70 rfl (lv_at hl 4 rfl) ?_
                refine wg_Whole_size hx hb hC hw (by omega) bw_53 d_W_takeSum_71 ?_
                refine wcV_v (As := [.ref (wa T i), .ref (wa T j)]) hx hb hC hw (k_N_takeDifference l T V K I O k i j (by omega) (by omega) (by omega) (by omega) hV) lk_W_40 rfl rfl ⟨by show 1 + 1 ≤ R.frames; omega, by show 8 + (7 + 11) + 22 ≤ R.locals; omega⟩ (by omega) (we_Natural (by omega)) rfl rfl hl.1 rfl (Nat.le_of_ble_eq_true rfl) ⟨Nat.zero_le _, Nat.zero_le _⟩ d_W_takeSum_74 (fun H locs hw => ?_)
                refine lv_goto (tgt := 99) hx hb d_W_takeSum_77 (by decide) ?_
                have eV : sV true (true != true) (V i) (V j) = V i - V j := by unfold sV; rw [if_neg (by decide), if_pos (by omega)]
                have eS : sG true (true != true) (V i) (V j) = true := by unfold sG; rw [if_neg (by decide), if_pos (by omega)]
                rw [← eV] at hw
                refine lv_aload_n hx hb d_W_takeSum_99 rfl (lv_at hl 2 rfl) ?_
                refine lv_iload hx hb d_W_takeSum_100 (lv_at hl 0 rfl) ?_
                refine n_if_eq (tgt := 119) hx hb d_W_takeSum_102 (by decide) (by omega) (fun hw9 => ?_) (fun hw9 => ?_)
                · exact absurd hw9 (by decide)
                · refine lv_aload_n hx hb d_W_takeSum_105 rfl (lv_at hl 2 rfl) ?_
                  refine wg_Whole_size hx hb hC hw (by omega) bw_53 d_W_takeSum_106 ?_
                  refine wcV_z (As := []) hx hb hC hw (k_N_isZero l T (va_up V k (sV true (true != true) (V i) (V j))) K I O k (by omega) (hV_up hV (hsl _ _))) lk_W_24 rfl rfl ⟨by show 0 + 1 ≤ R.frames; omega, by show 8 + (1 + 11) + 0 ≤ R.locals; omega⟩ (by omega) (we_Natural (by omega)) rfl rfl hl.1 rfl (Nat.le_of_ble_eq_true rfl) ⟨Nat.zero_le _, Nat.zero_le _⟩ d_W_takeSum_109 (fun H locs hw => ?_)
                  by_cases hz : (va_up V k (sV true (true != true) (V i) (V j))) k = 0
                  · refine sw_i (y := nI 1) (by rw [if_pos hz]; rfl) ?_
                    refine n_if_ne (tgt := 119) hx hb d_W_takeSum_112 (by decide) (by omega) (fun hw9 => ?_) (fun hw9 => ?_)
                    · rw [va_up_self] at hz
                      refine lv_iconst (v := nI 0) hx hb d_W_takeSum_119 (by decide +kernel) ?_
                      refine wp_Whole_below hx hb hC hw (by omega) (zb0) (zf0) bw_57 d_W_takeSum_120 (fun H locs hw => ?_)
                      have e9 : bI (sB true (true != true) (V i) (V j)) = nI 0 := by unfold sB; rw [eS, decide_eq_true hz]; rfl
                      rw [← e9] at hw
                      exact hret _ _ _ _ hw d_W_takeSum_123
                    · exact absurd hw9 (by decide)
                  · refine sw_i (y := nI 0) (by rw [if_neg hz]; rfl) ?_
                    refine n_if_ne (tgt := 119) hx hb d_W_takeSum_112 (by decide) (by omega) (fun hw9 => ?_) (fun hw9 => ?_)
                    · exact absurd hw9 (by decide)
                    · rw [va_up_self] at hz
                      refine lv_iconst (v := nI 1) hx hb d_W_takeSum_115 (by decide +kernel) ?_
                      refine lv_goto (tgt := 120) hx hb d_W_takeSum_116 (by decide) ?_
                      refine wp_Whole_below hx hb hC hw (by omega) (zb1) (zf1) bw_57 d_W_takeSum_120 (fun H locs hw => ?_)
                      have e9 : bI (sB true (true != true) (V i) (V j)) = nI 1 := by unfold sB; rw [eS, decide_eq_false hz]; rfl
                      rw [← e9] at hw
                      exact hret _ _ _ _ hw d_W_takeSum_123
          · exact absurd hw9 (by decide)
        · exact absurd hw9 (by decide)
end
section
/-! contracts whose numbers are told by a property; Residues -/
def mQvp (T : wT) (Pr : (Nat → Nat) → wUt → Prop) (I : wIt) (O : wOt) : Array Value → State → Outcome → State → Prop := va_Qv (fun u : (Nat → Nat) × wUt => Pr u.1 u.2) (fun u t => wd T (fF u.1) (fU u.1) u.2 I O t) (wA T)
section EV
variable {p : Program} {l : Launch} {e : Env} {R : Room} {s : State} {m : MethodId} {args : Array Value} {below : List Frame} {meth : Method} {c : Code} {H H0 : Heap} {locs : List Loc} {cells slots : Nat} {Q : State → Prop}
variable {cc : ByteArray} {pc maxL : Nat} {ls : Array Slot} {rest st0 As : List Value} {T : wT} {F : wFt} {U K : wUt} {I I' : wIt} {O O' : wOt} {A : Nat → Prop} {own : String}
variable {y : MethodName} {bytes : ByteArray} {mL n index k ci N : Nat} {fs : List Value} {Tt : u_T} {rm : Room} {Pr : (Nat → Nat) → wUt → Prop}
theorem wM_vp (hpn : plainName y.cls = true) {av : List Value} (hav : (lg_sl av).length ≤ maxL)
    (body : ∀ (p : Program) (e : Env) (R : Room) (s : State) (m : MethodId) (args : Array Value) (below : List Frame) (meth : Method) (c : Code) (Q : State → Prop) (ls : Array Slot), p.tables.exec = Jvm.exec → c.code = cc → wC m c maxL s args y.cls → rm.frames ≤ R.frames → rm.locals ≤ R.locals →
      (∀ (V' : Nat → Nat) (K' : wUt) (H : Heap) (locs : List Loc) (pc : Nat) (ls : Array Slot), Pr V' K' → wH T (fF V') (fU V') K' I' O' (wA T) s s.heap H locs → decode cc pc = .ok (.return_, 1) → W p l e R s m args below meth c H locs 0 0 Q (F0 m pc ls [])) →
      lv_has ls maxL (lv_args 0 av) → wH T F U K I O (wA T) s s.heap s.heap [] → W p l e R s m args below meth c s.heap [] 0 0 Q (F0 m 0 ls [])) :
    Met l y (.code y cc maxL none :: bg) rm (mP T F U K I O av) (mQvp T Pr I' O') 0 0 (wA T) := by
  refine Met.ofW (cc := cc) (maxL := maxL) (ret := none) hpn rfl ?_
  intro p e s m args below meth c s₁ B hml hv
  obtain ⟨rfl, hv⟩ := hv
  have hts := atoms_spec (ws := (.code y cc maxL none :: bg)) B.pre
  have hlocks := B.notSynchronized
  rw [lg_entry_eq]
  refine body p e _ s m _ below meth c _ _ B.exec B.bytes ⟨hml, fun w h => hts w (List.mem_cons_of_mem _ h), findClass_of_methodNamed B.named⟩ (Nat.le_refl _) (Nat.le_refl _) ?_ (lv_entry av hav) (wH.start hv)
  intro V' K' H locs pc ls hP hw hd
  exact W.vret B.exec B.bytes B.returns (fun t ht hW => ⟨⟨(V', K'), rfl, hP, hw.stop ht hW.alike⟩, hw.2.2.2.1.F ht⟩) hw.2.2.2.1.2.2 hd hlocks
theorem wcV_vp (hx : p.tables.exec = Jvm.exec) (hb : c.code = cc) (hC : wC m c maxL s args own) (hw : wH T F U K I O A s H0 H locs)
    (hM : Met l y (.code y bytes mL none :: bg) rm (mP T F U K I O (.ref (wa T k) :: As)) (mQvp T Pr I' O') 0 0 (wA T)) (h : wLv own index y bytes mL none n) (hrc : rm.cells = 0) (hrs : rm.slots = 0) (hR : rm.frames + 1 ≤ R.frames ∧ 8 + (mL + 11) + rm.locals ≤ R.locals)
    (hk : k < 97) (he : wE T F U K I O k = .inr (ci, fs)) (hc : clS[ci]? = some (y.cls, Tt, N)) (hn : As.length = n) (hls : ls.size = maxL) (hst : st0 = As.reverse ++ .ref (wa T k) :: rest) (hW8 : (rest.map fun v => v.category).sum ≤ 8) (hf : cells ≤ R.cells ∧ slots ≤ R.slots) (hdg : decode cc pc = .ok (.invokevirtual index, 3))
    (kk : ∀ (V' : Nat → Nat) (K' : wUt) (H1 : Heap) (locs1 : List Loc), Pr V' K' → wH T (fF V') (fU V') K' I' O' A s H0 H1 locs1 → W p l e R s m args below meth c H1 locs1 cells slots Q (F0 m (pc + 3) ls rest)) : W p l e R s m args below meth c H locs cells slots Q (F0 m pc ls st0) := by
  refine va_callv (va_runV (C := y.cls) (As := As) (rest := rest) ⟨hx, hb, hC.1, hC.2.2, hC.2.1⟩ hM ⟨wc_B hC h.1 hrc hrs hR, hC.hts h.2.1, hC.hts h.2.2⟩ ⟨mP_blind, hw.recv hk he hc, hw.pre⟩ rfl hn hls hst (lv_room hW8) hdg hf) hw.2.2.2.1 (fun q _ h => wA_sub hw q h) (wA_sub hw) (fun u t H1 locs1 ht hvm hp hB hz hk1 hS => ?_)
  exact kk u.1 u.2 H1 locs1 hp (hw.back ht hvm hB hS)
end EV
def m1024 : Nat := 2 ^ 1024
theorem k37 {v : Nat} (h : v < m1024) : kD v ≤ 37 := kD_mono (Nat.lt_of_lt_of_le h (by rw [vB_two]; exact Nat.pow_le_pow_right (by decide) (by decide)))
theorem m1024_lim : m1024 ≤ vLim := by rw [vLim_two]; exact Nat.pow_le_pow_right (by decide) (by decide)
theorem sp_fit {a b v : Nat} (ha : a < m1024) (hb : b < v) (hv : v < m1024) : a * b * 2 ^ (28 * kD v - bl v) < vB ^ 74 := by
  have hvl : v < vLim := Nat.lt_of_lt_of_le hv m1024_lim
  have hk : 0 < kD v := by apply Nat.pos_of_ne_zero; intro q; have := kD0 hvl q; omega
  have h1 := (sp_norm hvl hk).1
  have h2 := vB_le (k37 hv)
  have h3 : b * 2 ^ (28 * kD v - bl v) ≤ v * 2 ^ (28 * kD v - bl v) := Nat.mul_le_mul_right _ (Nat.le_of_lt hb)
  have h4 : b * 2 ^ (28 * kD v - bl v) < vB ^ 37 := by omega
  have h5 : a < vB ^ 37 := Nat.lt_of_lt_of_le ha (by rw [vB_two]; exact Nat.pow_le_pow_right (by decide) (by decide))
  rw [Nat.mul_assoc]
  exact vB_mul (m := 37) (n := 37) h5 h4
theorem sp_fit1 {a v : Nat} (ha : a < m1024) (hv : v < m1024) (h0 : 0 < v) : a * 2 ^ (28 * kD v - bl v) < vB ^ 74 := by
  by_cases h1 : 1 < v
  · have := sp_fit ha h1 hv
    rw [Nat.mul_one] at this; exact this
  · have e : v = 1 := by omega
    subst e
    have hk := sp_norm (v := 1) (by decide +kernel) (by decide +kernel)
    have h2 : 1 * 2 ^ (28 * kD 1 - bl 1) < vB ^ 1 := Nat.lt_of_lt_of_le hk.1 (vB_le (kD_mono (by decide)))
    rw [Nat.one_mul] at h2
    have h5 : a < vB ^ 37 := Nat.lt_of_lt_of_le ha (by rw [vB_two]; exact Nat.pow_le_pow_right (by decide) (by decide))
    exact Nat.lt_of_lt_of_le (vB_mul h5 h2) (vB_le (by decide))
theorem dvV_rest (V : Nat → Nat) (d a b : Nat) : dvV V d a b (14 + 3 * d) = V a % V b := by unfold dvV; rw [va_up_self]
theorem dvV_quot (V : Nat → Nat) (d a b : Nat) : dvV V d a b (13 + 3 * d) = V a / V b := by unfold dvV; rw [va_up_ne _ _ (by omega), va_up_self]
theorem dvV_out {V : Nat → Nat} {d a b x : Nat} (h : x < 13 + 3 * d ∨ 15 + 3 * d < x) : dvV V d a b x = V x := by unfold dvV; rw [va_up_ne _ _ (by omega), va_up_ne _ _ (by omega), va_up_ne _ _ (by omega)]
theorem dvV_lim {V : Nat → Nat} {d a b : Nat} (hd : d < 3) (ha : a < 34) (hb : b < 34) (hV : ∀ n, n < 34 → V n < vLim) : ∀ n, n < 34 → dvV V d a b n < vLim := by
  unfold dvV
  refine hV_up (hV_up (hV_up hV ?_) (Nat.lt_of_le_of_lt (Nat.div_le_self _ _) (hV a ha))) (Nat.lt_of_le_of_lt (Nat.mod_le _ _) (hV a ha))
  unfold dvL
  split
  · exact hV _ (by omega)
  · rename_i h
    have hk : 0 < kD (V b) := by apply Nat.pos_of_ne_zero; intro q; exact h (Or.inl (kD0 (hV b hb) q))
    exact Nat.lt_of_lt_of_le (sp_norm (hV b hb) hk).1 (vB_le (kD_le _))
def rdc (b : Bool) (x m : Nat) : Nat := if (b && !decide (x % m = 0)) = true then m - x % m else x % m
theorem rdc_lt {b : Bool} {x m : Nat} (h : 0 < m) : rdc b x m < m := by
  have := Nat.mod_lt x h
  unfold rdc
  split
  · rename_i q
    simp at q
    omega
  · exact this
def rpV (V : Nat → Nat) (mo : Nat) : Nat → Nat := va_up (dvV V 1 28 mo) 26 (V 28 % V mo)
def rdV (V : Nat → Nat) (b : Bool) (k mo : Nat) : Nat → Nat := va_up (dvV V 1 k mo) 26 (rdc b (V k) (V mo))

set_option maxRecDepth 100000 in
set_option maxHeartbeats 4000000 in
theorem k_S_reduceProduct (l : Launch) (T : wT) (V : Nat → Nat) (K : wUt) (I : wIt) (O : wOt) (mo : Nat) (hm : mo < 13) (hA : V 28 * 2 ^ (28 * kD (V mo) - bl (V mo)) < vB ^ 74) (hV : ∀ n, n < 34 → V n < vLim) : Met l y_S_reduceProduct (.code y_S_reduceProduct c_S_reduceProduct 2 none :: bg) ({ frames := 4, cells := 0, slots := 0, locals := 105 } : Room) (mP T (fF V) (fU V) K I O [.ref (wa T 89), .ref (wa T mo)]) (mQv T (fF (rpV V mo)) (fU (rpV V mo)) K I O) 0 0 (wA T) := by
  refine wM_v (by decide) (Nat.le_of_ble_eq_true rfl) ?_
  intro p e R s m args below meth c Q ls hx hb hC hRf hRl hret hl hw
  have hRf : 4 ≤ R.frames := hRf
  have hRl : 105 ≤ R.locals := hRl
  have hl : lv_has ls 2 [(0, .ref (wa T 89)), (1, .ref (wa T mo))] := hl
  refine lv_aload_n hx hb d_S_reduceProduct_0 rfl (lv_at hl 0 rfl) ?_
  refine wg_Residues_division hx hb hC hw bw_141 d_S_reduceProduct_1 ?_
  refine lv_aload_n hx hb d_S_reduceProduct_4 rfl (lv_at hl 0 rfl) ?_
  refine wg_Residues_product hx hb hC hw bw_140 d_S_reduceProduct_5 ?_
  refine lv_aload_n hx hb d_S_reduceProduct_8 rfl (lv_at hl 1 rfl) ?_
  refine wcV_v (As := [.ref (wa T 28), .ref (wa T mo)]) hx hb hC hw (k_D_run l T V K I O 1 28 mo (by omega) (by omega) (by omega) (by omega) (by omega) hA hV) lk_S_34 rfl rfl ⟨by show 3 + 1 ≤ R.frames; omega, by show 8 + (6 + 11) + 80 ≤ R.locals; omega⟩ (by omega) (we_Division (by omega)) rfl rfl hl.1 rfl (Nat.le_of_ble_eq_true rfl) ⟨Nat.zero_le _, Nat.zero_le _⟩ d_S_reduceProduct_9 (fun H locs hw => ?_)
  refine lv_aload_n hx hb d_S_reduceProduct_12 rfl (lv_at hl 0 rfl) ?_
  refine wg_Residues_found hx hb hC hw bw_137 d_S_reduceProduct_13 ?_
  refine lv_aload_n hx hb d_S_reduceProduct_16 rfl (lv_at hl 0 rfl) ?_
  refine wg_Residues_division hx hb hC hw bw_141 d_S_reduceProduct_17 ?_
  refine wg_Division_rest (i := 1) hx hb hC hw (by omega) bw_94 d_S_reduceProduct_20 ?_
  refine wcV_v (As := [.ref (wa T (14 + 3 * 1))]) hx hb hC hw (k_N_take l T (dvV V 1 28 mo) K I O 26 (14 + 3 * 1) (by omega) (by omega) (dvV_lim (by omega) (by omega) (by omega) hV)) lk_S_41 rfl rfl ⟨by show 1 + 1 ≤ R.frames; omega, by show 8 + (4 + 11) + 22 ≤ R.locals; omega⟩ (by omega) (we_Natural (by omega)) rfl rfl hl.1 rfl (Nat.le_of_ble_eq_true rfl) ⟨Nat.zero_le _, Nat.zero_le _⟩ d_S_reduceProduct_23 (fun H locs hw => ?_)
  rw [dvV_rest] at hw
  exact hret _ _ _ _ hw d_S_reduceProduct_26
set_option maxRecDepth 100000 in
set_option maxHeartbeats 4000000 in
theorem k_S_reduce (l : Launch) (T : wT) (V : Nat → Nat) (K : wUt) (I : wIt) (O : wOt) (k mo : Nat) (bk : Bool) (hk : k < 13) (hm : mo < 13) (hKk : K k = bI bk) (h0 : 0 < V mo) (hA : V k * 2 ^ (28 * kD (V mo) - bl (V mo)) < vB ^ 74) (hV : ∀ n, n < 34 → V n < vLim) : Met l y_S_reduce (.code y_S_reduce c_S_reduce 3 none :: bg) ({ frames := 4, cells := 0, slots := 0, locals := 105 } : Room) (mP T (fF V) (fU V) K I O [.ref (wa T 89), .ref (wa T (68 + k)), .ref (wa T mo)]) (mQv T (fF (rdV V bk k mo)) (fU (rdV V bk k mo)) K I O) 0 0 (wA T) := by
  refine wM_v (by decide) (Nat.le_of_ble_eq_true rfl) ?_
  intro p e R s m args below meth c Q ls hx hb hC hRf hRl hret hl hw
  have hRf : 4 ≤ R.frames := hRf
  have hRl : 105 ≤ R.locals := hRl
  have hl : lv_has ls 3 [(0, .ref (wa T 89)), (1, .ref (wa T (68 + k))), (2, .ref (wa T mo))] := hl
  refine lv_aload_n hx hb d_S_reduce_0 rfl (lv_at hl 0 rfl) ?_
  refine wg_Residues_division hx hb hC hw bw_141 d_S_reduce_1 ?_
  refine lv_aload_n hx hb d_S_reduce_4 rfl (lv_at hl 1 rfl) ?_
  refine wg_Whole_size hx hb hC hw (by omega) bw_54 d_S_reduce_5 ?_
  refine lv_aload_n hx hb d_S_reduce_8 rfl (lv_at hl 2 rfl) ?_
  refine wcV_v (As := [.ref (wa T k), .ref (wa T mo)]) hx hb hC hw (k_D_run l T V K I O 1 k mo (by omega) (by omega) (by omega) (by omega) (by omega) hA hV) lk_S_34 rfl rfl ⟨by show 3 + 1 ≤ R.frames; omega, by show 8 + (6 + 11) + 80 ≤ R.locals; omega⟩ (by omega) (we_Division (by omega)) rfl rfl hl.1 rfl (Nat.le_of_ble_eq_true rfl) ⟨Nat.zero_le _, Nat.zero_le _⟩ d_S_reduce_9 (fun H locs hw => ?_)
  have hL := dvV_lim (V := V) (d := 1) (a := k) (b := mo) (by omega) (by omega) (by omega) hV
  refine lv_aload_n hx hb d_S_reduce_12 rfl (lv_at hl 0 rfl) ?_
  refine wg_Residues_found hx hb hC hw bw_137 d_S_reduce_13 ?_
  refine lv_aload_n hx hb d_S_reduce_16 rfl (lv_at hl 0 rfl) ?_
  refine wg_Residues_division hx hb hC hw bw_141 d_S_reduce_17 ?_
  refine wg_Division_rest (i := 1) hx hb hC hw (by omega) bw_94 d_S_reduce_20 ?_
  refine wcV_v (As := [.ref (wa T (14 + 3 * 1))]) hx hb hC hw (k_N_take l T (dvV V 1 k mo) K I O 26 (14 + 3 * 1) (by omega) (by omega) hL) lk_S_41 rfl rfl ⟨by show 1 + 1 ≤ R.frames; omega, by show 8 + (4 + 11) + 22 ≤ R.locals; omega⟩ (by omega) (we_Natural (by omega)) rfl rfl hl.1 rfl (Nat.le_of_ble_eq_true rfl) ⟨Nat.zero_le _, Nat.zero_le _⟩ d_S_reduce_23 (fun H locs hw => ?_)
  rw [dvV_rest] at hw
  have hL2 : ∀ n, n < 34 → va_up (dvV V 1 k mo) 26 (V k % V mo) n < vLim := hV_up hL (Nat.lt_of_le_of_lt (Nat.mod_le _ _) (hV k (by omega)))
  cases bk
  · refine lv_aload_n hx hb d_S_reduce_26 rfl (lv_at hl 1 rfl) ?_
    refine wg_Whole_below hx hb hC hw (by omega) bw_58 d_S_reduce_27 ?_
    refine sw_i (y := nI 0) (hKk) ?_
    refine n_if_eq (tgt := 55) hx hb d_S_reduce_30 (by decide) (by omega) (fun hw9 => ?_) (fun hw9 => ?_)
    · exact hret _ _ _ _ hw d_S_reduce_55
    · exact absurd hw9 (by decide)
  · refine lv_aload_n hx hb d_S_reduce_26 rfl (lv_at hl 1 rfl) ?_
    refine wg_Whole_below hx hb hC hw (by omega) bw_58 d_S_reduce_27 ?_
    refine sw_i (y := nI 1) (hKk) ?_
    refine n_if_eq (tgt := 55) hx hb d_S_reduce_30 (by decide) (by omega) (fun hw9 => ?_) (fun hw9 => ?_)
    · exact absurd hw9 (by decide)
    · refine lv_aload_n hx hb d_S_reduce_33 rfl (lv_at hl 0 rfl) ?_
      refine wg_Residues_found hx hb hC hw bw_137 d_S_reduce_34 ?_
      refine wcV_z (As := []) hx hb hC hw (k_N_isZero l T (va_up (dvV V 1 k mo) 26 (V k % V mo)) K I O 26 (by omega) hL2) lk_S_49 rfl rfl ⟨by show 0 + 1 ≤ R.frames; omega, by show 8 + (1 + 11) + 0 ≤ R.locals; omega⟩ (by omega) (we_Natural (by omega)) rfl rfl hl.1 rfl (Nat.le_of_ble_eq_true rfl) ⟨Nat.zero_le _, Nat.zero_le _⟩ d_S_reduce_37 (fun H locs hw => ?_)
      by_cases hz : (va_up (dvV V 1 k mo) 26 (V k % V mo)) 26 = 0
      · refine sw_i (y := nI 1) (by rw [if_pos hz]; rfl) ?_
        refine n_if_ne (tgt := 55) hx hb d_S_reduce_40 (by decide) (by omega) (fun hw9 => ?_) (fun hw9 => ?_)
        · rw [va_up_self] at hz
          have e9 : rdc true (V k) (V mo) = V k % V mo := by unfold rdc; rw [decide_eq_true hz]; rfl
          rw [← e9] at hw
          exact hret _ _ _ _ hw d_S_reduce_55
        · exact absurd hw9 (by decide)
      · refine sw_i (y := nI 0) (by rw [if_neg hz]; rfl) ?_
        refine n_if_ne (tgt := 55) hx hb d_S_reduce_40 (by decide) (by omega) (fun hw9 => ?_) (fun hw9 => ?_)
        · exact absurd hw9 (by decide)
        · rw [va_up_self] at hz
          have em : va_up (dvV V 1 k mo) 26 (V k % V mo) mo = V mo := by rw [va_up_ne _ _ (by omega)]; exact dvV_out (by omega)
          refine lv_aload_n hx hb d_S_reduce_43 rfl (lv_at hl 0 rfl) ?_
          refine wg_Residues_found hx hb hC hw bw_137 d_S_reduce_44 ?_
          refine lv_aload_n hx hb d_S_reduce_47 rfl (lv_at hl 2 rfl) ?_
          refine lv_aload_n hx hb d_S_reduce_48 rfl (lv_at hl 0 rfl) ?_
          refine wg_Residues_found hx hb hC hw bw_137 d_S_reduce_49 ?_
          refine wcV_v (As := [.ref (wa T mo), .ref (wa T 26)]) hx hb hC hw (k_N_takeDifference l T (va_up (dvV V 1 k mo) 26 (V k % V mo)) K I O 26 mo 26 (by omega) (by omega) (by omega) (by rw [em, va_up_self]; exact Nat.le_of_lt (Nat.mod_lt _ h0)) hL2) lk_S_53 rfl rfl ⟨by show 1 + 1 ≤ R.frames; omega, by show 8 + (7 + 11) + 22 ≤ R.locals; omega⟩ (by omega) (we_Natural (by omega)) rfl rfl hl.1 rfl (Nat.le_of_ble_eq_true rfl) ⟨Nat.zero_le _, Nat.zero_le _⟩ d_S_reduce_52 (fun H locs hw => ?_)
          rw [em, va_up_self, bx_uu] at hw
          have e9 : rdc true (V k) (V mo) = V mo - V k % V mo := by unfold rdc; rw [decide_eq_false hz]; rfl
          rw [← e9] at hw
          exact hret _ _ _ _ hw d_S_reduce_55
end
section
/-! Residues: powers -/
theorem rp_26 (W : Nat → Nat) (mo : Nat) : rpV W mo 26 = W 28 % W mo := by unfold rpV; rw [va_up_self]
theorem rp_out {W : Nat → Nat} {mo n : Nat} (h : n < 16 ∨ 18 < n) (h2 : n ≠ 26) : rpV W mo n = W n := by unfold rpV; rw [va_up_ne _ _ h2]; exact dvV_out (by omega)
theorem rp_lim {W : Nat → Nat} {mo : Nat} (hm : mo < 13) (hW : ∀ n, n < 34 → W n < vLim) : ∀ n, n < 34 → rpV W mo n < vLim := by
  unfold rpV; exact hV_up (dvV_lim (by omega) (by omega) (by omega) hW) (Nat.lt_of_le_of_lt (Nat.mod_le _ _) (hW 28 (by omega)))
theorem tb_half (E q : Nat) : E / 2 ^ q = 2 * (E / 2 ^ (q + 1)) + (if E.testBit q = true then 1 else 0) := by
  have e1 : E / 2 ^ (q + 1) = E / 2 ^ q / 2 := by rw [Nat.pow_succ, Nat.div_div_eq_div_mul]
  have e2 := Nat.testBit_eq_decide_div_mod_eq (x := E) (i := q)
  rw [e1, e2]
  simp only [decide_eq_true_eq]
  split <;> omega
theorem pw_sq (g x M : Nat) : g ^ x % M * (g ^ x % M) % M = g ^ (2 * x) % M := by
  rw [← Nat.mul_mod, ← Nat.pow_add, Nat.two_mul]
theorem pw_one (g x M : Nat) : g ^ x % M * g % M = g ^ (x + 1) % M := by
  rw [Nat.mod_mul_mod, ← Nat.pow_succ]
def sPr (V : Nat → Nat) (K : wUt) (x v : Nat) (V' : Nat → Nat) (K' : wUt) : Prop := K' = K ∧ (∀ n, n < 34 → V' n < vLim) ∧ (∀ n, n < 13 → V' n = V n) ∧ V' x = v

set_option maxRecDepth 100000 in
set_option maxHeartbeats 4000000 in
theorem k_S_raise (l : Launch) (T : wT) (V : Nat → Nat) (K : wUt) (I : wIt) (O : wOt) (k ex mo : Nat) (bk : Bool) (hk : k < 13) (he9 : ex < 13) (hm : mo < 13) (hKk : K k = bI bk) (h0 : 0 < V mo) (hk1 : V k < m1024) (hm1 : V mo < m1024) (hV : ∀ n, n < 34 → V n < vLim) : Met l y_S_raise (.code y_S_raise c_S_raise 5 none :: bg) ({ frames := 5, cells := 0, slots := 0, locals := 127 } : Room) (mP T (fF V) (fU V) K I O [.ref (wa T 89), .ref (wa T (68 + k)), .ref (wa T ex), .ref (wa T mo)]) (mQvp T (sPr V K 26 (rdc bk (V k) (V mo) ^ V ex % V mo)) I O) 0 0 (wA T) := by
  refine wM_vp (by decide) (Nat.le_of_ble_eq_true rfl) ?_
  intro p e R s m args below meth c Q ls hx hb hC hRf hRl hret hl hw
  have hRf : 5 ≤ R.frames := hRf
  have hRl : 127 ≤ R.locals := hRl
  have hl : lv_has ls 5 [(0, .ref (wa T 89)), (1, .ref (wa T (68 + k))), (2, .ref (wa T ex)), (3, .ref (wa T mo))] := hl
  refine lv_aload_n hx hb d_S_raise_0 rfl (lv_at hl 0 rfl) ?_
  refine lv_aload_n hx hb d_S_raise_1 rfl (lv_at hl 1 rfl) ?_
  refine lv_aload_n hx hb d_S_raise_2 rfl (lv_at hl 3 rfl) ?_
  refine wcV_v (As := [.ref (wa T (68 + k)), .ref (wa T mo)]) hx hb hC hw (k_S_reduce l T V K I O k mo bk hk hm hKk h0 (sp_fit1 hk1 hm1 h0) hV) lk_S_56 rfl rfl ⟨by show 4 + 1 ≤ R.frames; omega, by show 8 + (3 + 11) + 105 ≤ R.locals; omega⟩ (by omega) (we_Residues ) rfl rfl hl.1 rfl (Nat.le_of_ble_eq_true rfl) ⟨Nat.zero_le _, Nat.zero_le _⟩ d_S_raise_3 (fun H locs hw => ?_)
  have g0 := rdc_lt (b := bk) (x := V k) h0
  generalize hg : rdc bk (V k) (V mo) = g at g0
  have a1 : rdV V bk k mo 26 = g := by unfold rdV; rw [va_up_self, hg]
  have a2 : ∀ n, n < 13 → rdV V bk k mo n = V n := fun n hn => by unfold rdV; rw [va_up_ne _ _ (by omega)]; exact dvV_out (by omega)
  have gl : g < vLim := Nat.lt_trans g0 (hV mo (by omega))
  have a3 : ∀ n, n < 34 → rdV V bk k mo n < vLim := by unfold rdV; exact hV_up (dvV_lim (by omega) (by omega) (by omega) hV) (by rw [hg]; exact gl)
  generalize rdV V bk k mo = V1 at hw a1 a2 a3
  refine lv_aload_n hx hb d_S_raise_6 rfl (lv_at hl 0 rfl) ?_
  refine wg_Residues_base hx hb hC hw bw_139 d_S_raise_7 ?_
  refine lv_aload_n hx hb d_S_raise_10 rfl (lv_at hl 0 rfl) ?_
  refine wg_Residues_found hx hb hC hw bw_137 d_S_raise_11 ?_
  refine wcV_v (As := [.ref (wa T 26)]) hx hb hC hw (k_N_take l T V1 K I O 27 26 (by omega) (by omega) a3) lk_S_41 rfl rfl ⟨by show 1 + 1 ≤ R.frames; omega, by show 8 + (4 + 11) + 22 ≤ R.locals; omega⟩ (by omega) (we_Natural (by omega)) rfl rfl hl.1 rfl (Nat.le_of_ble_eq_true rfl) ⟨Nat.zero_le _, Nat.zero_le _⟩ d_S_raise_14 (fun H locs hw => ?_)
  have b3 := hV_up (x := 27) a3 (a3 26 (by omega))
  refine lv_aload_n hx hb d_S_raise_17 rfl (lv_at hl 0 rfl) ?_
  refine wg_Residues_product hx hb hC hw bw_140 d_S_raise_18 ?_
  refine lv_lconst (v := 1) hx hb d_S_raise_21 (by decide +kernel) ?_
  refine sw_l (y := lN 1) (rfl) ?_
  refine wcV_v (As := [.long (lN 1)]) hx hb hC hw (k_N_takeUnsigned l T (va_up V1 27 (V1 26)) K I O 28 1 (by omega) (by decide) b3) lk_S_60 rfl rfl ⟨by show 1 + 1 ≤ R.frames; omega, by show 8 + (3 + 11) + 22 ≤ R.locals; omega⟩ (by omega) (we_Natural (by omega)) rfl rfl hl.1 rfl (Nat.le_of_ble_eq_true rfl) ⟨Nat.zero_le _, Nat.zero_le _⟩ d_S_raise_22 (fun H locs hw => ?_)
  have c3 := hV_up (x := 28) (v := 1) b3 (by decide +kernel)
  have c1 : ∀ n, n < 13 → va_up (va_up V1 27 (V1 26)) 28 1 n = V n := fun n hn => by rw [va_up_ne _ _ (by omega), va_up_ne _ _ (by omega)]; exact a2 n hn
  have c2 : va_up (va_up V1 27 (V1 26)) 28 1 27 = g := by rw [va_up_ne _ _ (by omega), va_up_self]; exact a1
  have c4 : va_up (va_up V1 27 (V1 26)) 28 1 28 = 1 := va_up_self _ _ _
  generalize va_up (va_up V1 27 (V1 26)) 28 1 = V3 at hw c1 c2 c3 c4
  refine lv_aload_n hx hb d_S_raise_25 rfl (lv_at hl 0 rfl) ?_
  refine lv_aload_n hx hb d_S_raise_26 rfl (lv_at hl 3 rfl) ?_
  refine wcV_v (As := [.ref (wa T mo)]) hx hb hC hw (k_S_reduceProduct l T V3 K I O mo hm (by rw [c4, c1 mo hm]; exact sp_fit1 (by decide +kernel) hm1 h0) c3) lk_S_64 rfl rfl ⟨by show 4 + 1 ≤ R.frames; omega, by show 8 + (2 + 11) + 105 ≤ R.locals; omega⟩ (by omega) (we_Residues ) rfl rfl hl.1 rfl (Nat.le_of_ble_eq_true rfl) ⟨Nat.zero_le _, Nat.zero_le _⟩ d_S_raise_27 (fun H locs hw => ?_)
  have d1 : ∀ n, n < 13 → rpV V3 mo n = V n := fun n hn => by rw [rp_out (by omega) (by omega)]; exact c1 n hn
  have d2 : rpV V3 mo 27 = g := by rw [rp_out (by omega) (by omega)]; exact c2
  have d3 := rp_lim hm c3
  have d4 : rpV V3 mo 26 = 1 % V mo := by rw [rp_26, c4, c1 mo hm]
  generalize rpV V3 mo = V4 at hw d1 d2 d3 d4
  refine lv_aload_n hx hb d_S_raise_30 rfl (lv_at hl 2 rfl) ?_
  refine wcV_i (As := []) hx hb hC hw (k_N_length l T V4 K I O ex (by omega) d3) lk_S_67 rfl rfl ⟨by show 3 + 1 ≤ R.frames; omega, by show 8 + (1 + 11) + 63 ≤ R.locals; omega⟩ (by omega) (we_Natural (by omega)) rfl rfl hl.1 rfl (Nat.le_of_ble_eq_true rfl) ⟨Nat.zero_le _, Nat.zero_le _⟩ d_S_raise_31 (fun H locs hw => ?_)
  rw [d1 ex he9]
  refine lv_iconst (v := nI 1) hx hb d_S_raise_34 (by decide +kernel) ?_
  refine lv_isub hx hb d_S_raise_35 ?_
  refine sw_i (y := (nI (bl (V ex)) - 1)) (rfl) ?_
  refine lv_istore hx hb d_S_raise_36 hl (by decide) rfl (fun ls hl => ?_)
  have hl : lv_has ls 5 [(4, .int (nI (bl (V ex)) - 1)), (0, .ref (wa T 89)), (1, .ref (wa T (68 + k))), (2, .ref (wa T ex)), (3, .ref (wa T mo))] := hl
  have lp : ∀ (q : Nat) (V9 : Nat → Nat) (ls : Array Slot) (H : Heap) (locs : List Loc), (V9 26 = g ^ (V ex / 2 ^ q) % V mo) → (V9 27 = g) → (∀ n, n < 13 → V9 n = V n) → (∀ n, n < 34 → V9 n < vLim) → (q ≤ 2100) →  lv_has ls 5 [(4, .int (nI q - 1)), (0, .ref (wa T 89)), (1, .ref (wa T (68 + k))), (2, .ref (wa T ex)), (3, .ref (wa T mo))] → wH T (fF V9) (fU V9) K I O (wA T) s s.heap H locs → W p l e R s m args below meth c H locs 0 0 Q (F0 m 38 ls []) := by
    intro q
    induction q with
    | zero =>
      intro V9 ls H locs h1 h2 h3 h4 h5 hl hw
      refine lv_iload hx hb d_S_raise_38 (lv_at hl 0 rfl) ?_
      refine d_if_lt (tgt := 94) hx hb d_S_raise_40 (by decide) (by omega) (fun h0 => ?_) (fun h0 => ?_)
      · exact hret V9 K _ _ _ _ ⟨rfl, h4, h3, by rw [h1, Nat.pow_zero, Nat.div_one, hg]⟩ hw d_S_raise_94
      · exact absurd h0 (by omega)
    | succ q ih =>
      intro V9 ls H locs h1 h2 h3 h4 h5 hl hw
      rw [nI_pred] at hl
      have hl : lv_has ls 5 [(4, .int (nI q)), (0, .ref (wa T 89)), (1, .ref (wa T (68 + k))), (2, .ref (wa T ex)), (3, .ref (wa T mo))] := hl
      refine lv_iload hx hb d_S_raise_38 (lv_at hl 0 rfl) ?_
      refine n_if_lt hx hb d_S_raise_40 (by decide) (by omega) ?_
      have fl : V9 26 < V mo := by rw [h1]; exact Nat.mod_lt _ h0
      have f1 : V9 26 < m1024 := Nat.lt_trans fl hm1
      have f37 := k37 f1
      have fgl : V9 26 * V9 26 < vLim := Nat.lt_of_lt_of_le (vB_mul (kD_lt (h4 26 (by omega))) (kD_lt (h4 26 (by omega)))) (vB_le (by omega))
      refine lv_aload_n hx hb d_S_raise_43 rfl (lv_at hl 1 rfl) ?_
      refine wg_Residues_product hx hb hC hw bw_140 d_S_raise_44 ?_
      refine lv_aload_n hx hb d_S_raise_47 rfl (lv_at hl 1 rfl) ?_
      refine wg_Residues_found hx hb hC hw bw_137 d_S_raise_48 ?_
      refine wcV_v (As := [.ref (wa T 26)]) hx hb hC hw (k_N_takeSquare l T V9 K I O 28 26 (by omega) (by omega) (by omega) (by omega) h4) lk_S_71 rfl rfl ⟨by show 2 + 1 ≤ R.frames; omega, by show 8 + (3 + 11) + 46 ≤ R.locals; omega⟩ (by omega) (we_Natural (by omega)) rfl rfl hl.1 rfl (Nat.le_of_ble_eq_true rfl) ⟨Nat.zero_le _, Nat.zero_le _⟩ d_S_raise_51 (fun H locs hw => ?_)
      have e3 := hV_up (x := 28) h4 fgl
      have e1 : ∀ n, n < 13 → va_up V9 28 (V9 26 * V9 26) n = V n := fun n hn => by rw [va_up_ne _ _ (by omega)]; exact h3 n hn
      have e2 : va_up V9 28 (V9 26 * V9 26) 27 = g := by rw [va_up_ne _ _ (by omega)]; exact h2
      have e4 : va_up V9 28 (V9 26 * V9 26) 28 = V9 26 * V9 26 := va_up_self _ _ _
      generalize va_up V9 28 (V9 26 * V9 26) = Va at hw e1 e2 e3 e4
      refine lv_aload_n hx hb d_S_raise_54 rfl (lv_at hl 1 rfl) ?_
      refine lv_aload_n hx hb d_S_raise_55 rfl (lv_at hl 4 rfl) ?_
      refine wcV_v (As := [.ref (wa T mo)]) hx hb hC hw (k_S_reduceProduct l T Va K I O mo hm (by rw [e4, e1 mo hm]; exact sp_fit f1 fl hm1) e3) lk_S_64 rfl rfl ⟨by show 4 + 1 ≤ R.frames; omega, by show 8 + (2 + 11) + 105 ≤ R.locals; omega⟩ (by omega) (we_Residues ) rfl rfl hl.1 rfl (Nat.le_of_ble_eq_true rfl) ⟨Nat.zero_le _, Nat.zero_le _⟩ d_S_raise_56 (fun H locs hw => ?_)
      have i1 : ∀ n, n < 13 → rpV Va mo n = V n := fun n hn => by rw [rp_out (by omega) (by omega)]; exact e1 n hn
      have i2 : rpV Va mo 27 = g := by rw [rp_out (by omega) (by omega)]; exact e2
      have i3 := rp_lim hm e3
      have i4 : rpV Va mo 26 = g ^ (2 * (V ex / 2 ^ (q + 1))) % V mo := by rw [rp_26, e4, e1 mo hm, h1, pw_sq]
      generalize rpV Va mo = Vb at hw i1 i2 i3 i4
      refine lv_aload_n hx hb d_S_raise_59 rfl (lv_at hl 3 rfl) ?_
      refine lv_iload hx hb d_S_raise_60 (lv_at hl 0 rfl) ?_
      refine wcV_z (As := [.int (nI q)]) hx hb hC hw (k_N_hasBit l T Vb K I O ex q (by omega) (by omega) i3) lk_S_74 rfl rfl ⟨by show 1 + 1 ≤ R.frames; omega, by show 8 + (2 + 11) + 21 ≤ R.locals; omega⟩ (by omega) (we_Natural (by omega)) rfl rfl hl.1 rfl (Nat.le_of_ble_eq_true rfl) ⟨Nat.zero_le _, Nat.zero_le _⟩ d_S_raise_62 (fun H locs hw => ?_)
      rw [i1 ex he9]
      have hth := tb_half (V ex) q
      by_cases htb : (V ex).testBit q = true
      · refine sw_i (y := nI 1) (by rw [if_pos htb]; rfl) ?_
        refine n_if_eq (tgt := 88) hx hb d_S_raise_65 (by decide) (by omega) (fun hw9 => ?_) (fun hw9 => ?_)
        · exact absurd hw9 (by decide)
        · rw [if_pos htb] at hth
          have bl1 : Vb 26 < V mo := by rw [i4]; exact Nat.mod_lt _ h0
          have bgl : Vb 26 * Vb 27 < vLim := Nat.lt_of_lt_of_le (vB_mul (m := 37) (n := 37) (Nat.lt_of_lt_of_le (kD_lt (i3 26 (by omega))) (vB_le (k37 (Nat.lt_trans bl1 hm1)))) (Nat.lt_of_lt_of_le (kD_lt (i3 27 (by omega))) (vB_le (k37 (by rw [i2]; exact Nat.lt_trans g0 hm1))))) (vB_le (by decide))
          refine lv_aload_n hx hb d_S_raise_68 rfl (lv_at hl 1 rfl) ?_
          refine wg_Residues_product hx hb hC hw bw_140 d_S_raise_69 ?_
          refine lv_aload_n hx hb d_S_raise_72 rfl (lv_at hl 1 rfl) ?_
          refine wg_Residues_found hx hb hC hw bw_137 d_S_raise_73 ?_
          refine lv_aload_n hx hb d_S_raise_76 rfl (lv_at hl 1 rfl) ?_
          refine wg_Residues_base hx hb hC hw bw_139 d_S_raise_77 ?_
          refine wcV_v (As := [.ref (wa T 26), .ref (wa T 27)]) hx hb hC hw (k_N_takeProduct l T Vb K I O 28 26 27 (by omega) (by omega) (by omega) (by omega) (by omega) (by have := k37 (Nat.lt_trans bl1 hm1); have := k37 (show Vb 27 < m1024 by rw [i2]; exact Nat.lt_trans g0 hm1); omega) i3) lk_S_78 rfl rfl ⟨by show 2 + 1 ≤ R.frames; omega, by show 8 + (4 + 11) + 46 ≤ R.locals; omega⟩ (by omega) (we_Natural (by omega)) rfl rfl hl.1 rfl (Nat.le_of_ble_eq_true rfl) ⟨Nat.zero_le _, Nat.zero_le _⟩ d_S_raise_80 (fun H locs hw => ?_)
          have j3 := hV_up (x := 28) i3 bgl
          have j1 : ∀ n, n < 13 → va_up Vb 28 (Vb 26 * Vb 27) n = V n := fun n hn => by rw [va_up_ne _ _ (by omega)]; exact i1 n hn
          have j2 : va_up Vb 28 (Vb 26 * Vb 27) 27 = g := by rw [va_up_ne _ _ (by omega)]; exact i2
          have j4 : va_up Vb 28 (Vb 26 * Vb 27) 28 = Vb 26 * g := by rw [va_up_self, i2]
          generalize va_up Vb 28 (Vb 26 * Vb 27) = Vc at hw j1 j2 j3 j4
          refine lv_aload_n hx hb d_S_raise_83 rfl (lv_at hl 1 rfl) ?_
          refine lv_aload_n hx hb d_S_raise_84 rfl (lv_at hl 4 rfl) ?_
          refine wcV_v (As := [.ref (wa T mo)]) hx hb hC hw (k_S_reduceProduct l T Vc K I O mo hm (by rw [j4, j1 mo hm]; exact sp_fit (Nat.lt_trans bl1 hm1) g0 hm1) j3) lk_S_64 rfl rfl ⟨by show 4 + 1 ≤ R.frames; omega, by show 8 + (2 + 11) + 105 ≤ R.locals; omega⟩ (by omega) (we_Residues ) rfl rfl hl.1 rfl (Nat.le_of_ble_eq_true rfl) ⟨Nat.zero_le _, Nat.zero_le _⟩ d_S_raise_85 (fun H locs hw => ?_)
          refine lv_iinc (v := (nI q - 1)) hx hb d_S_raise_88 hl (k := 0) rfl (i32_m1 _) (by decide) rfl (fun ls hl => ?_)
          have hl : lv_has ls 5 [(4, .int (nI q - 1)), (0, .ref (wa T 89)), (1, .ref (wa T (68 + k))), (2, .ref (wa T ex)), (3, .ref (wa T mo))] := hl
          refine lv_goto (tgt := 38) hx hb d_S_raise_91 (by decide) ?_
          exact ih (rpV Vc mo) ls H locs (by rw [rp_26, j4, j1 mo hm, i4, pw_one, ← hth]) (by rw [rp_out (by omega) (by omega)]; exact j2) (fun n hn => by rw [rp_out (by omega) (by omega)]; exact j1 n hn) (rp_lim hm j3) (by omega) hl hw
      · refine sw_i (y := nI 0) (by rw [if_neg htb]; rfl) ?_
        refine n_if_eq (tgt := 88) hx hb d_S_raise_65 (by decide) (by omega) (fun hw9 => ?_) (fun hw9 => ?_)
        · rw [if_neg htb, Nat.add_zero] at hth
          refine lv_iinc (v := (nI q - 1)) hx hb d_S_raise_88 hl (k := 0) rfl (i32_m1 _) (by decide) rfl (fun ls hl => ?_)
          have hl : lv_has ls 5 [(4, .int (nI q - 1)), (0, .ref (wa T 89)), (1, .ref (wa T (68 + k))), (2, .ref (wa T ex)), (3, .ref (wa T mo))] := hl
          refine lv_goto (tgt := 38) hx hb d_S_raise_91 (by decide) ?_
          exact ih Vb ls H locs (by rw [i4, ← hth]) i2 i1 i3 (by omega) hl hw
        · exact absurd hw9 (by decide)
  exact lp (bl (V ex)) V4 ls _ _ (by rw [d4, Nat.div_eq_of_lt (bl_lt (hV ex (by omega))), Nat.pow_zero]) d2 d1 d3 (bl_le _) hl hw
end
section
/-! Euclid -/
/-- what holds of the rests r0, r1 and the factors f0, f1 while Euclid's steps go on from a and b; sg: the factor f0 is below 0 -/
def eInv (a b r0 r1 f0 f1 : Nat) (sg : Bool) : Prop :=
  Nat.gcd r0 r1 = Nat.gcd a b ∧ f0 * r1 + f1 * r0 = a ∧ (0 < r0 ∨ (f0 = 0 ∧ f1 = 1)) ∧
  (∃ u : Int, (r0 : Int) = (if sg then -(f0 : Int) else (f0 : Int)) * b + u * a) ∧ (∃ u : Int, (r1 : Int) = (if sg then (f1 : Int) else -(f1 : Int)) * b + u * a)
theorem eInv_0 (a b : Nat) : eInv a b a b 0 1 true := by
  refine ⟨rfl, by omega, ?_, ⟨1, by simp⟩, ⟨0, by simp⟩⟩
  by_cases h : 0 < a
  · exact Or.inl h
  · exact Or.inr ⟨rfl, rfl⟩
theorem eInv_s {a b r0 r1 f0 f1 : Nat} {sg : Bool} (h : eInv a b r0 r1 f0 f1 sg) (h1 : 0 < r1) : eInv a b r1 (r0 % r1) f1 (r0 / r1 * f1 + f0) (!sg) := by
  obtain ⟨g1, g2, g3, ⟨u, g4⟩, ⟨w, g5⟩⟩ := h
  have hd := Nat.div_add_mod r0 r1
  generalize r0 / r1 = q at *
  generalize hr2 : r0 % r1 = r2 at *
  have hdI : (r1 : Int) * (q : Int) + (r2 : Int) = (r0 : Int) := by exact_mod_cast hd
  refine ⟨?_, ?_, Or.inl h1, ⟨w, ?_⟩, ⟨u - q * w, ?_⟩⟩
  · rw [← g1, ← hr2, Nat.gcd_comm r1, ← Nat.gcd_rec, Nat.gcd_comm]
  · rw [← g2, ← hd]; grind
  · rw [g5]; cases sg <;> simp
  · have e1 : (r2 : Int) = (r0 : Int) - (r1 : Int) * (q : Int) := by omega
    rw [e1, g4, g5]
    have e2 : ((q * f1 + f0 : Nat) : Int) = (q : Int) * f1 + f0 := by push_cast; rfl
    cases sg
    · simp only [Bool.not_false, if_true, Bool.false_eq_true, if_false]; rw [e2]; grind
    · simp only [Bool.not_true, if_true, Bool.false_eq_true, if_false]; rw [e2]; grind
theorem eInv_bd {a b r0 r1 f0 f1 : Nat} {sg : Bool} (h : eInv a b r0 r1 f0 f1 sg) (h1 : 0 < r1) : r0 / r1 * f1 + f0 ≤ a ∧ f0 ≤ a ∧ r0 / r1 * f1 ≤ a := by
  have h2 := (eInv_s h h1).2.1
  have h3 : (r0 / r1 * f1 + f0) * 1 ≤ (r0 / r1 * f1 + f0) * r1 := Nat.mul_le_mul_left _ h1
  have h4 : (r0 / r1 * f1 + f0) * r1 ≤ a := by rw [← h2]; exact Nat.le_add_left _ _
  rw [Nat.mul_one] at h3
  omega
theorem eInv_f1 {a b r0 r1 f0 f1 : Nat} {sg : Bool} (h : eInv a b r0 r1 f0 f1 sg) : f1 ≤ a + 1 := by
  obtain ⟨_, g2, g3, _⟩ := h
  rcases g3 with h | h
  · have h3 : f1 * 1 ≤ f1 * r0 := Nat.mul_le_mul_left _ h
    rw [Nat.mul_one] at h3
    omega
  · omega
/-- two steps halve the greater number -/
theorem half_mod {r0 r1 : Nat} (h1 : 0 < r1) (h : r1 ≤ r0) : 2 * (r0 % r1) < r0 + 1 := by
  have h2 := Nat.mod_lt r0 h1
  have h3 := Nat.div_add_mod r0 r1
  have h4 : 1 ≤ r0 / r1 := Nat.div_pos h h1
  have h5 : r1 * 1 ≤ r1 * (r0 / r1) := Nat.mul_le_mul_left _ h4
  omega
end
section
/-! Euclid: run -/
theorem k37' {v : Nat} (h : v ≤ m1024) : kD v ≤ 37 := kD_mono (Nat.lt_of_le_of_lt h (by rw [vB_two]; exact Nat.pow_lt_pow_right (by decide) (by decide)))
def eSt (a b i r0 r1 : Nat) : Prop := i ≤ 2049 ∧ (i = 0 ∨ (r1 < r0 ∧ r0 * r1 < 2 ^ (2049 - i)))
theorem eSt_go {a b i r0 r1 : Nat} (h : eSt a b i r0 r1) (h1 : 0 < r1) (hr0 : r0 < m1024) (hr1 : r1 < m1024) : i ≤ 2048 ∧ eSt a b (i + 1) r1 (r0 % r1) := by
  have h9 := Nat.mod_lt r0 h1
  rcases h with ⟨h2, h3 | ⟨h3, h4⟩⟩
  · subst h3
    refine ⟨by decide, by decide, Or.inr ⟨h9, ?_⟩⟩
    have e : (2 : Nat) ^ (2049 - (0 + 1)) = m1024 * m1024 := by unfold m1024; rw [← Nat.pow_add]
    rw [e]; exact Nat.mul_lt_mul'' hr1 (Nat.lt_trans h9 hr1)
  · have h5 : i ≤ 2048 := by
      apply Nat.le_of_not_lt; intro q
      rw [show 2049 - i = 0 by omega] at h4
      have : 0 < r0 * r1 := Nat.mul_pos (by omega) h1
      omega
    refine ⟨h5, by omega, Or.inr ⟨h9, ?_⟩⟩
    have h6 := half_mod h1 (Nat.le_of_lt h3)
    have h7 : 2 * (r1 * (r0 % r1)) ≤ r0 * r1 := by
      have : r1 * (2 * (r0 % r1)) ≤ r1 * r0 := Nat.mul_le_mul_left _ (by omega)
      rw [Nat.mul_comm r0 r1]
      have e : 2 * (r1 * (r0 % r1)) = r1 * (2 * (r0 % r1)) := by grind
      rw [e]; exact this
    have e2 : (2 : Nat) ^ (2049 - i) = 2 * 2 ^ (2049 - (i + 1)) := by rw [← Nat.pow_succ', show (2049 - (i + 1)).succ = 2049 - i by omega]
    rw [e2] at h4
    generalize 2 ^ (2049 - (i + 1)) = P2 at *
    omega
def ePr (V : Nat → Nat) (K : wUt) (a b : Nat) (V' : Nat → Nat) (K' : wUt) : Prop := (∀ n, n < 34 → V' n < vLim) ∧ (∀ n, n < 13 → V' n = V n) ∧ ∃ (sg : Bool) (f1 : Nat), K' = va_up K 13 (bI sg) ∧ eInv (V a) (V b) (V' 29) 0 (V' 30) f1 sg

set_option maxRecDepth 100000 in
set_option maxHeartbeats 4000000 in
theorem k_E_run (l : Launch) (T : wT) (V : Nat → Nat) (K : wUt) (I : wIt) (O : wOt) (a b : Nat) (ha : a < 13) (hb9 : b < 13 ∨ b = 26) (ha1 : V a < m1024) (hb1 : V b < m1024) (hV : ∀ n, n < 34 → V n < vLim) : Met l y_E_run (.code y_E_run c_E_run 4 none :: bg) ({ frames := 4, cells := 0, slots := 0, locals := 105 } : Room) (mP T (fF V) (fU V) K I O [.ref (wa T 90), .ref (wa T a), .ref (wa T b)]) (mQvp T (ePr V K a b) I O) 0 0 (wA T) := by
  refine wM_vp (by decide) (Nat.le_of_ble_eq_true rfl) ?_
  intro p e R s m args below meth c Q ls hx hb hC hRf hRl hret hl hw
  have hRf : 4 ≤ R.frames := hRf
  have hRl : 105 ≤ R.locals := hRl
  have hl : lv_has ls 4 [(0, .ref (wa T 90)), (1, .ref (wa T a)), (2, .ref (wa T b))] := hl
  refine lv_aload_n hx hb d_E_run_0 rfl (lv_at hl 0 rfl) ?_
  refine wg_Euclid_divisor hx hb hC hw bw_161 d_E_run_1 ?_
  refine lv_aload_n hx hb d_E_run_4 rfl (lv_at hl 1 rfl) ?_
  refine wcV_v (As := [.ref (wa T a)]) hx hb hC hw (k_N_take l T V K I O 29 a (by omega) (by omega) hV) lk_E_39 rfl rfl ⟨by show 1 + 1 ≤ R.frames; omega, by show 8 + (4 + 11) + 22 ≤ R.locals; omega⟩ (by omega) (we_Natural (by omega)) rfl rfl hl.1 rfl (Nat.le_of_ble_eq_true rfl) ⟨Nat.zero_le _, Nat.zero_le _⟩ d_E_run_5 (fun H locs hw => ?_)
  generalize hV1 : va_up V 29 (V a) = V1 at hw
  have l1 : ∀ n, n < 34 → V1 n < vLim := by rw [← hV1]; exact hV_up hV (hV a (by omega))
  have o1 : ∀ n, n ≠ 29 → V1 n = V n := fun n h => by rw [← hV1]; exact va_up_ne _ _ h
  have x1 : V1 29 = V a := by rw [← hV1]; exact va_up_self _ _ _
  refine lv_aload_n hx hb d_E_run_8 rfl (lv_at hl 0 rfl) ?_
  refine wg_Euclid_next hx hb hC hw bw_166 d_E_run_9 ?_
  refine lv_aload_n hx hb d_E_run_12 rfl (lv_at hl 2 rfl) ?_
  refine wcV_v (As := [.ref (wa T b)]) hx hb hC hw (k_N_take l T V1 K I O 31 b (by omega) (by omega) l1) lk_E_39 rfl rfl ⟨by show 1 + 1 ≤ R.frames; omega, by show 8 + (4 + 11) + 22 ≤ R.locals; omega⟩ (by omega) (we_Natural (by omega)) rfl rfl hl.1 rfl (Nat.le_of_ble_eq_true rfl) ⟨Nat.zero_le _, Nat.zero_le _⟩ d_E_run_13 (fun H locs hw => ?_)
  rw [o1 b (by omega)] at hw
  generalize hV2 : va_up V1 31 (V b) = V2 at hw
  have l2 : ∀ n, n < 34 → V2 n < vLim := by rw [← hV2]; exact hV_up l1 (hV b (by omega))
  have o2 : ∀ n, n ≠ 29 → n ≠ 31 → V2 n = V n := fun n h h2 => by rw [← hV2, va_up_ne _ _ h2]; exact o1 n h
  have x2 : V2 29 = V a ∧ V2 31 = V b := by rw [← hV2]; exact ⟨by rw [va_up_ne _ _ (by decide)]; exact x1, va_up_self _ _ _⟩
  refine lv_aload_n hx hb d_E_run_16 rfl (lv_at hl 0 rfl) ?_
  refine wg_Euclid_factor hx hb hC hw bw_163 d_E_run_17 ?_
  refine wcV_v (As := []) hx hb hC hw (k_N_clear l T V2 K I O 30 (by omega) l2) lk_E_43 rfl rfl ⟨by show 1 + 1 ≤ R.frames; omega, by show 8 + (1 + 11) + 22 ≤ R.locals; omega⟩ (by omega) (we_Natural (by omega)) rfl rfl hl.1 rfl (Nat.le_of_ble_eq_true rfl) ⟨Nat.zero_le _, Nat.zero_le _⟩ d_E_run_20 (fun H locs hw => ?_)
  generalize hV3 : va_up V2 30 0 = V3 at hw
  have l3 : ∀ n, n < 34 → V3 n < vLim := by rw [← hV3]; exact hV_up l2 (by decide +kernel)
  have o3 : ∀ n, n < 13 → V3 n = V n := fun n h => by rw [← hV3, va_up_ne _ _ (by omega)]; exact o2 n (by omega) (by omega)
  have x3 : V3 29 = V a ∧ V3 31 = V b ∧ V3 30 = 0 := by rw [← hV3]; exact ⟨by rw [va_up_ne _ _ (by decide)]; exact x2.1, by rw [va_up_ne _ _ (by decide)]; exact x2.2, va_up_self _ _ _⟩
  refine lv_aload_n hx hb d_E_run_23 rfl (lv_at hl 0 rfl) ?_
  refine wg_Euclid_nextFactor hx hb hC hw bw_167 d_E_run_24 ?_
  refine lv_lconst (v := 1) hx hb d_E_run_27 (by decide +kernel) ?_
  refine sw_l (y := lN 1) (rfl) ?_
  refine wcV_v (As := [.long (lN 1)]) hx hb hC hw (k_N_takeUnsigned l T V3 K I O 32 1 (by omega) (by decide) l3) lk_E_46 rfl rfl ⟨by show 1 + 1 ≤ R.frames; omega, by show 8 + (3 + 11) + 22 ≤ R.locals; omega⟩ (by omega) (we_Natural (by omega)) rfl rfl hl.1 rfl (Nat.le_of_ble_eq_true rfl) ⟨Nat.zero_le _, Nat.zero_le _⟩ d_E_run_28 (fun H locs hw => ?_)
  generalize hV4 : va_up V3 32 1 = V4 at hw
  have l4 : ∀ n, n < 34 → V4 n < vLim := by rw [← hV4]; exact hV_up l3 (by decide +kernel)
  have o4 : ∀ n, n < 13 → V4 n = V n := fun n h => by rw [← hV4, va_up_ne _ _ (by omega)]; exact o3 n h
  have x4 : V4 29 = V a ∧ V4 31 = V b ∧ V4 30 = 0 ∧ V4 32 = 1 := by rw [← hV4]; exact ⟨by rw [va_up_ne _ _ (by decide)]; exact x3.1, by rw [va_up_ne _ _ (by decide)]; exact x3.2.1, by rw [va_up_ne _ _ (by decide)]; exact x3.2.2, va_up_self _ _ _⟩
  refine lv_aload_n hx hb d_E_run_31 rfl (lv_at hl 0 rfl) ?_
  refine lv_iconst (v := nI 1) hx hb d_E_run_32 (by decide +kernel) ?_
  refine wp_Euclid_factorBelow hx hb hC hw (zb1) (zf1) bw_165 d_E_run_33 (fun H locs hw => ?_)
  refine lv_iconst (v := nI 0) hx hb d_E_run_36 (by decide +kernel) ?_
  refine lv_istore_n hx hb d_E_run_37 rfl hl (by decide) rfl (fun ls hl => ?_)
  have hl : lv_has ls 4 [(3, .int (nI 0)), (0, .ref (wa T 90)), (1, .ref (wa T a)), (2, .ref (wa T b))] := hl
  rw [← bI_t] at hw
  have lp : ∀ (z9 i : Nat) (V9 : Nat → Nat) (sg : Bool) (ls : Array Slot) (H : Heap) (locs : List Loc), 10000 - i = z9 → i ≤ 10000 → (∀ n, n < 34 → V9 n < vLim) → (∀ n, n < 13 → V9 n = V n) → (V9 29 < m1024 ∧ V9 31 < m1024 ∧ True ∧ eInv (V a) (V b) (V9 29) (V9 31) (V9 30) (V9 32) sg) → (eSt (V a) (V b) i (V9 29) (V9 31)) →  lv_has ls 4 [(3, .int (nI i)), (0, .ref (wa T 90)), (1, .ref (wa T a)), (2, .ref (wa T b))] → wH T (fF V9) (fU V9) (va_up K 13 (bI sg)) I O (wA T) s s.heap H locs → W p l e R s m args below meth c H locs 0 0 Q (F0 m 38 ls []) := by
    intro z9
    induction z9 with
    | zero =>
      intro i V9 sg ls H locs hn hle h1 h2 h3 h4 hl hw
      refine lv_iload_n hx hb d_E_run_38 rfl (lv_at hl 0 rfl) ?_
      refine lv_sipush (v := nI 10000) hx hb d_E_run_39 (by decide +kernel) ?_
      refine n_icmp_ge (tgt := 172) hx hb d_E_run_42 (by decide) (by omega) (by omega) (fun h0 => ?_) (fun h0 => ?_)
      · have e9 : 10000 = i := by omega
        exact absurd e9 (by have := h4.1; omega)
      · exact absurd h0 (by omega)
    | succ z9 ih =>
      intro i V9 sg ls H locs hn hle h1 h2 h3 h4 hl hw
      refine lv_iload_n hx hb d_E_run_38 rfl (lv_at hl 0 rfl) ?_
      refine lv_sipush (v := nI 10000) hx hb d_E_run_39 (by decide +kernel) ?_
      refine n_icmp_ge (tgt := 172) hx hb d_E_run_42 (by decide) (by omega) (by omega) (fun h0 => ?_) (fun h0 => ?_)
      · exact absurd h0 (by omega)
      · obtain ⟨g1, g2, g3, g4⟩ := h3
        refine lv_aload_n hx hb d_E_run_45 rfl (lv_at hl 1 rfl) ?_
        refine wg_Euclid_next hx hb hC hw bw_166 d_E_run_46 ?_
        refine wcV_z (As := []) hx hb hC hw (k_N_isZero l T V9 (va_up K 13 (bI sg)) I O 31 (by omega) h1) lk_E_50 rfl rfl ⟨by show 0 + 1 ≤ R.frames; omega, by show 8 + (1 + 11) + 0 ≤ R.locals; omega⟩ (by omega) (we_Natural (by omega)) rfl rfl hl.1 rfl (Nat.le_of_ble_eq_true rfl) ⟨Nat.zero_le _, Nat.zero_le _⟩ d_E_run_49 (fun H locs hw => ?_)
        by_cases hz : V9 31 = 0
        · refine sw_i (y := nI 1) (by rw [if_pos hz]; rfl) ?_
          refine n_if_ne (tgt := 172) hx hb d_E_run_52 (by decide) (by omega) (fun hw9 => ?_) (fun hw9 => ?_)
          · exact hret V9 _ _ _ _ _ ⟨h1, h2, sg, V9 32, rfl, by rw [hz] at g4; exact g4⟩ hw d_E_run_172
          · exact absurd hw9 (by decide)
        · refine sw_i (y := nI 0) (by rw [if_neg hz]; rfl) ?_
          refine n_if_ne (tgt := 172) hx hb d_E_run_52 (by decide) (by omega) (fun hw9 => ?_) (fun hw9 => ?_)
          · exact absurd hw9 (by decide)
          · have hz1 : 0 < V9 31 := by omega
            have st9 := eSt_go h4 hz1 g1 g2
            have iv9 := eInv_s g4 hz1
            have bd9 := eInv_bd g4 hz1
            have bf1 := eInv_f1 g4
            have hqm : V9 29 / V9 31 < m1024 := Nat.lt_of_le_of_lt (Nat.div_le_self _ _) g1
            have hma := m1024_lim
            have hmod := Nat.mod_lt (V9 29) hz1
            refine lv_aload_n hx hb d_E_run_55 rfl (lv_at hl 1 rfl) ?_
            refine wg_Euclid_division hx hb hC hw bw_169 d_E_run_56 ?_
            refine lv_aload_n hx hb d_E_run_59 rfl (lv_at hl 1 rfl) ?_
            refine wg_Euclid_divisor hx hb hC hw bw_161 d_E_run_60 ?_
            refine lv_aload_n hx hb d_E_run_63 rfl (lv_at hl 1 rfl) ?_
            refine wg_Euclid_next hx hb hC hw bw_166 d_E_run_64 ?_
            refine wcV_v (As := [.ref (wa T 29), .ref (wa T 31)]) hx hb hC hw (k_D_run l T V9 (va_up K 13 (bI sg)) I O 2 29 31 (by omega) (by omega) (by omega) (by omega) (by omega) (sp_fit1 g1 g2 hz1) h1) lk_E_54 rfl rfl ⟨by show 3 + 1 ≤ R.frames; omega, by show 8 + (6 + 11) + 80 ≤ R.locals; omega⟩ (by omega) (we_Division (by omega)) rfl rfl hl.1 rfl (Nat.le_of_ble_eq_true rfl) ⟨Nat.zero_le _, Nat.zero_le _⟩ d_E_run_67 (fun H locs hw => ?_)
            have la := dvV_lim (V := V9) (d := 2) (a := 29) (b := 31) (by omega) (by omega) (by omega) h1
            have oa : ∀ n, n < 19 ∨ 21 < n → dvV V9 2 29 31 n = V9 n := fun n h => dvV_out (by omega)
            have xr : dvV V9 2 29 31 20 = V9 29 % V9 31 := dvV_rest _ 2 _ _
            have xq : dvV V9 2 29 31 19 = V9 29 / V9 31 := dvV_quot _ 2 _ _
            generalize dvV V9 2 29 31 = Va at hw la oa xr xq
            refine lv_aload_n hx hb d_E_run_70 rfl (lv_at hl 1 rfl) ?_
            refine wg_Euclid_divisor hx hb hC hw bw_161 d_E_run_71 ?_
            refine lv_aload_n hx hb d_E_run_74 rfl (lv_at hl 1 rfl) ?_
            refine wg_Euclid_next hx hb hC hw bw_166 d_E_run_75 ?_
            refine wcV_v (As := [.ref (wa T 31)]) hx hb hC hw (k_N_take l T Va (va_up K 13 (bI sg)) I O 29 31 (by omega) (by omega) la) lk_E_39 rfl rfl ⟨by show 1 + 1 ≤ R.frames; omega, by show 8 + (4 + 11) + 22 ≤ R.locals; omega⟩ (by omega) (we_Natural (by omega)) rfl rfl hl.1 rfl (Nat.le_of_ble_eq_true rfl) ⟨Nat.zero_le _, Nat.zero_le _⟩ d_E_run_78 (fun H locs hw => ?_)
            rw [oa 31 (by omega)] at hw
            generalize hVb : va_up Va 29 (V9 31) = Vb at hw
            have lb : ∀ n, n < 34 → Vb n < vLim := by rw [← hVb]; exact hV_up la (h1 31 (by omega))
            have ob : ∀ n, n ≠ 29 → Vb n = Va n := fun n h => by rw [← hVb]; exact va_up_ne _ _ h
            have xb : Vb 29 = V9 31 := by rw [← hVb]; exact va_up_self _ _ _
            refine lv_aload_n hx hb d_E_run_81 rfl (lv_at hl 1 rfl) ?_
            refine wg_Euclid_next hx hb hC hw bw_166 d_E_run_82 ?_
            refine lv_aload_n hx hb d_E_run_85 rfl (lv_at hl 1 rfl) ?_
            refine wg_Euclid_division hx hb hC hw bw_169 d_E_run_86 ?_
            refine wg_Division_rest (i := 2) hx hb hC hw (by omega) bw_95 d_E_run_89 ?_
            refine wcV_v (As := [.ref (wa T (14 + 3 * 2))]) hx hb hC hw (k_N_take l T Vb (va_up K 13 (bI sg)) I O 31 (14 + 3 * 2) (by omega) (by omega) lb) lk_E_39 rfl rfl ⟨by show 1 + 1 ≤ R.frames; omega, by show 8 + (4 + 11) + 22 ≤ R.locals; omega⟩ (by omega) (we_Natural (by omega)) rfl rfl hl.1 rfl (Nat.le_of_ble_eq_true rfl) ⟨Nat.zero_le _, Nat.zero_le _⟩ d_E_run_92 (fun H locs hw => ?_)
            rw [show Vb (14 + 3 * 2) = V9 29 % V9 31 from (ob 20 (by decide)).trans xr] at hw
            generalize hVc : va_up Vb 31 (V9 29 % V9 31) = Vc at hw
            have lc : ∀ n, n < 34 → Vc n < vLim := by rw [← hVc]; exact hV_up lb (Nat.lt_trans hmod (h1 31 (by omega)))
            have oc : ∀ n, n ≠ 31 → Vc n = Vb n := fun n h => by rw [← hVc]; exact va_up_ne _ _ h
            have xc : Vc 31 = V9 29 % V9 31 := by rw [← hVc]; exact va_up_self _ _ _
            have c19 : Vc 19 = V9 29 / V9 31 := by rw [oc 19 (by decide), ob 19 (by decide)]; exact xq
            have c32 : Vc 32 = V9 32 := by rw [oc 32 (by decide), ob 32 (by decide), oa 32 (by omega)]
            have c30 : Vc 30 = V9 30 := by rw [oc 30 (by decide), ob 30 (by decide), oa 30 (by omega)]
            have c29 : Vc 29 = V9 31 := by rw [oc 29 (by decide)]; exact xb
            refine lv_aload_n hx hb d_E_run_95 rfl (lv_at hl 1 rfl) ?_
            refine wg_Euclid_sum hx hb hC hw bw_168 d_E_run_96 ?_
            refine lv_aload_n hx hb d_E_run_99 rfl (lv_at hl 1 rfl) ?_
            refine wg_Euclid_division hx hb hC hw bw_169 d_E_run_100 ?_
            refine wg_Division_quotient (i := 2) hx hb hC hw (by omega) bw_91 d_E_run_103 ?_
            refine lv_aload_n hx hb d_E_run_106 rfl (lv_at hl 1 rfl) ?_
            refine wg_Euclid_nextFactor hx hb hC hw bw_167 d_E_run_107 ?_
            refine wcV_v (As := [.ref (wa T (13 + 3 * 2)), .ref (wa T 32)]) hx hb hC hw (k_N_takeProduct l T Vc (va_up K 13 (bI sg)) I O 33 (13 + 3 * 2) 32 (by omega) (by omega) (by omega) (by omega) (by omega) (by have h8 := k37 (v := Vc (13 + 3 * 2)) (by show Vc 19 < _; rw [c19]; exact hqm); have h9 := k37' (v := Vc 32) (by rw [c32]; omega); omega) lc) lk_E_64 rfl rfl ⟨by show 2 + 1 ≤ R.frames; omega, by show 8 + (4 + 11) + 46 ≤ R.locals; omega⟩ (by omega) (we_Natural (by omega)) rfl rfl hl.1 rfl (Nat.le_of_ble_eq_true rfl) ⟨Nat.zero_le _, Nat.zero_le _⟩ d_E_run_110 (fun H locs hw => ?_)
            rw [show Vc (13 + 3 * 2) = V9 29 / V9 31 from c19, c32] at hw
            generalize hVd : va_up Vc 33 (V9 29 / V9 31 * V9 32) = Vd at hw
            have ld : ∀ n, n < 34 → Vd n < vLim := by rw [← hVd]; exact hV_up lc (by omega)
            have od : ∀ n, n ≠ 33 → Vd n = Vc n := fun n h => by rw [← hVd]; exact va_up_ne _ _ h
            have xd : Vd 33 = V9 29 / V9 31 * V9 32 := by rw [← hVd]; exact va_up_self _ _ _
            have d30 : Vd 30 = V9 30 := by rw [od 30 (by decide)]; exact c30
            refine lv_aload_n hx hb d_E_run_113 rfl (lv_at hl 1 rfl) ?_
            refine wg_Euclid_sum hx hb hC hw bw_168 d_E_run_114 ?_
            refine lv_aload_n hx hb d_E_run_117 rfl (lv_at hl 1 rfl) ?_
            refine wg_Euclid_sum hx hb hC hw bw_168 d_E_run_118 ?_
            refine lv_aload_n hx hb d_E_run_121 rfl (lv_at hl 1 rfl) ?_
            refine wg_Euclid_factor hx hb hC hw bw_163 d_E_run_122 ?_
            refine wcV_v (As := [.ref (wa T 33), .ref (wa T 30)]) hx hb hC hw (k_N_takeSum l T Vd (va_up K 13 (bI sg)) I O 33 33 30 (by omega) (by omega) (by omega) (by have := k37' (v := Vd 33) (by rw [xd]; omega); omega) (by have := k37' (v := Vd 30) (by rw [d30]; omega); omega) ld) lk_E_67 rfl rfl ⟨by show 1 + 1 ≤ R.frames; omega, by show 8 + (7 + 11) + 22 ≤ R.locals; omega⟩ (by omega) (we_Natural (by omega)) rfl rfl hl.1 rfl (Nat.le_of_ble_eq_true rfl) ⟨Nat.zero_le _, Nat.zero_le _⟩ d_E_run_125 (fun H locs hw => ?_)
            rw [xd, d30] at hw
            generalize hVe : va_up Vd 33 (V9 29 / V9 31 * V9 32 + V9 30) = Ve at hw
            have le : ∀ n, n < 34 → Ve n < vLim := by rw [← hVe]; exact hV_up ld (by omega)
            have oe : ∀ n, n ≠ 33 → Ve n = Vc n := fun n h => by rw [← hVe, va_up_ne _ _ h]; exact od n h
            have xe : Ve 33 = V9 29 / V9 31 * V9 32 + V9 30 := by rw [← hVe]; exact va_up_self _ _ _
            refine lv_aload_n hx hb d_E_run_128 rfl (lv_at hl 1 rfl) ?_
            refine wg_Euclid_factor hx hb hC hw bw_163 d_E_run_129 ?_
            refine lv_aload_n hx hb d_E_run_132 rfl (lv_at hl 1 rfl) ?_
            refine wg_Euclid_nextFactor hx hb hC hw bw_167 d_E_run_133 ?_
            refine wcV_v (As := [.ref (wa T 32)]) hx hb hC hw (k_N_take l T Ve (va_up K 13 (bI sg)) I O 30 32 (by omega) (by omega) le) lk_E_39 rfl rfl ⟨by show 1 + 1 ≤ R.frames; omega, by show 8 + (4 + 11) + 22 ≤ R.locals; omega⟩ (by omega) (we_Natural (by omega)) rfl rfl hl.1 rfl (Nat.le_of_ble_eq_true rfl) ⟨Nat.zero_le _, Nat.zero_le _⟩ d_E_run_136 (fun H locs hw => ?_)
            rw [oe 32 (by decide), c32] at hw
            generalize hVf : va_up Ve 30 (V9 32) = Vf at hw
            have lf : ∀ n, n < 34 → Vf n < vLim := by rw [← hVf]; exact hV_up le (h1 32 (by omega))
            have of9 : ∀ n, n ≠ 30 → Vf n = Ve n := fun n h => by rw [← hVf]; exact va_up_ne _ _ h
            have xf : Vf 30 = V9 32 := by rw [← hVf]; exact va_up_self _ _ _
            refine lv_aload_n hx hb d_E_run_139 rfl (lv_at hl 1 rfl) ?_
            refine wg_Euclid_nextFactor hx hb hC hw bw_167 d_E_run_140 ?_
            refine lv_aload_n hx hb d_E_run_143 rfl (lv_at hl 1 rfl) ?_
            refine wg_Euclid_sum hx hb hC hw bw_168 d_E_run_144 ?_
            refine wcV_v (As := [.ref (wa T 33)]) hx hb hC hw (k_N_take l T Vf (va_up K 13 (bI sg)) I O 32 33 (by omega) (by omega) lf) lk_E_39 rfl rfl ⟨by show 1 + 1 ≤ R.frames; omega, by show 8 + (4 + 11) + 22 ≤ R.locals; omega⟩ (by omega) (we_Natural (by omega)) rfl rfl hl.1 rfl (Nat.le_of_ble_eq_true rfl) ⟨Nat.zero_le _, Nat.zero_le _⟩ d_E_run_147 (fun H locs hw => ?_)
            rw [of9 33 (by decide), xe] at hw
            generalize hVg : va_up Vf 32 (V9 29 / V9 31 * V9 32 + V9 30) = Vg at hw
            have lg : ∀ n, n < 34 → Vg n < vLim := by rw [← hVg]; exact hV_up lf (by omega)
            have og : ∀ n, n ≠ 32 → Vg n = Vf n := fun n h => by rw [← hVg]; exact va_up_ne _ _ h
            have xg : Vg 32 = V9 29 / V9 31 * V9 32 + V9 30 := by rw [← hVg]; exact va_up_self _ _ _
            have y29 : Vg 29 = V9 31 := by rw [og 29 (by decide), of9 29 (by decide), oe 29 (by decide)]; exact c29
            have y31 : Vg 31 = V9 29 % V9 31 := by rw [og 31 (by decide), of9 31 (by decide), oe 31 (by decide)]; exact xc
            have y30 : Vg 30 = V9 32 := by rw [og 30 (by decide)]; exact xf
            have yr : ∀ n, n < 13 → Vg n = V n := fun n h => by rw [og n (by omega), of9 n (by omega), oe n (by omega), oc n (by omega), ob n (by omega), oa n (by omega)]; exact h2 n h
            cases sg
            · refine lv_aload_n hx hb d_E_run_150 rfl (lv_at hl 1 rfl) ?_
              refine lv_aload_n hx hb d_E_run_151 rfl (lv_at hl 1 rfl) ?_
              refine wg_Euclid_factorBelow hx hb hC hw bw_165 d_E_run_152 ?_
              refine sw_i (y := nI 0) (by rw [va_up_self]; rfl) ?_
              refine n_if_ne (tgt := 162) hx hb d_E_run_155 (by decide) (by omega) (fun hw9 => ?_) (fun hw9 => ?_)
              · exact absurd hw9 (by decide)
              · refine lv_iconst (v := nI 1) hx hb d_E_run_158 (by decide +kernel) ?_
                refine lv_goto (tgt := 163) hx hb d_E_run_159 (by decide) ?_
                refine wp_Euclid_factorBelow hx hb hC hw (zb1) (zf1) bw_165 d_E_run_163 (fun H locs hw => ?_)
                refine lv_iinc (v := nI (i + 1)) hx hb d_E_run_166 hl (k := 0) rfl (nI_add _ 1) (by decide) rfl (fun ls hl => ?_)
                have hl : lv_has ls 4 [(3, .int (nI (i + 1))), (0, .ref (wa T 90)), (1, .ref (wa T a)), (2, .ref (wa T b))] := hl
                refine lv_goto (tgt := 38) hx hb d_E_run_169 (by decide) ?_
                rw [bx_uu] at hw
                exact ih (i + 1) Vg true ls H locs (by omega) (by omega) lg yr ⟨by rw [y29]; exact g2, by rw [y31]; exact Nat.lt_trans hmod g2, trivial, by rw [y29, y31, y30, xg]; exact iv9⟩ (by rw [y29, y31]; exact st9.2) hl hw
            · refine lv_aload_n hx hb d_E_run_150 rfl (lv_at hl 1 rfl) ?_
              refine lv_aload_n hx hb d_E_run_151 rfl (lv_at hl 1 rfl) ?_
              refine wg_Euclid_factorBelow hx hb hC hw bw_165 d_E_run_152 ?_
              refine sw_i (y := nI 1) (by rw [va_up_self]; rfl) ?_
              refine n_if_ne (tgt := 162) hx hb d_E_run_155 (by decide) (by omega) (fun hw9 => ?_) (fun hw9 => ?_)
              · refine lv_iconst (v := nI 0) hx hb d_E_run_162 (by decide +kernel) ?_
                refine wp_Euclid_factorBelow hx hb hC hw (zb0) (zf0) bw_165 d_E_run_163 (fun H locs hw => ?_)
                refine lv_iinc (v := nI (i + 1)) hx hb d_E_run_166 hl (k := 0) rfl (nI_add _ 1) (by decide) rfl (fun ls hl => ?_)
                have hl : lv_has ls 4 [(3, .int (nI (i + 1))), (0, .ref (wa T 90)), (1, .ref (wa T a)), (2, .ref (wa T b))] := hl
                refine lv_goto (tgt := 38) hx hb d_E_run_169 (by decide) ?_
                rw [bx_uu] at hw
                exact ih (i + 1) Vg false ls H locs (by omega) (by omega) lg yr ⟨by rw [y29]; exact g2, by rw [y31]; exact Nat.lt_trans hmod g2, trivial, by rw [y29, y31, y30, xg]; exact iv9⟩ (by rw [y29, y31]; exact st9.2) hl hw
              · exact absurd hw9 (by decide)
  exact lp 10000 0 V4 true ls _ _ (by omega) (by omega) l4 o4 ⟨by rw [x4.1]; exact ha1, by rw [x4.2.1]; exact hb1, trivial, by rw [x4.1, x4.2.1, x4.2.2.1, x4.2.2.2]; exact eInv_0 _ _⟩ ⟨by decide, Or.inl rfl⟩ hl hw
end
