/-! names, words: printed by our program out of the Statement -/
theorem tb_s_0 : (Jvm.Cond.selects "CheriCore$Capability" ({ cls := "CheriCore$Capability", name := "settle", desc := "()V" } : Jvm.MethodName) ({ cls := "CheriCore$Capability", name := "settle", desc := "()V" } : Jvm.MethodName)) ∈ TB := tbm_s (List.mem_of_getElem? (i := 0) (by decide +kernel))
theorem tb_s_1 : (Jvm.Cond.selects "CheriCore" ({ cls := "CheriCore", name := "isOutsideRoots", desc := "(LCheriCore$Capability;)Z" } : Jvm.MethodName) ({ cls := "CheriCore", name := "isOutsideRoots", desc := "(LCheriCore$Capability;)Z" } : Jvm.MethodName)) ∈ TB := tbm_s (List.mem_of_getElem? (i := 1) (by decide +kernel))
theorem tb_s_10 : (Jvm.Cond.selects "CheriCore$Pipeline" ({ cls := "CheriCore$Pipeline", name := "fetch", desc := "(I)V" } : Jvm.MethodName) ({ cls := "CheriCore$Pipeline", name := "fetch", desc := "(I)V" } : Jvm.MethodName)) ∈ TB := tbm_s (List.mem_of_getElem? (i := 10) (by decide +kernel))
theorem tb_s_11 : (Jvm.Cond.selects "CheriCore$CapabilityUnit" ({ cls := "CheriCore$CapabilityUnit", name := "byNumber", desc := "(LCheriCore$Instruction;LCheriCore$Capability;LCheriCore$Capability;)I" } : Jvm.MethodName) ({ cls := "CheriCore$CapabilityUnit", name := "byNumber", desc := "(LCheriCore$Instruction;LCheriCore$Capability;LCheriCore$Capability;)I" } : Jvm.MethodName)) ∈ TB := tbm_s (List.mem_of_getElem? (i := 11) (by decide +kernel))
theorem tb_s_12 : (Jvm.Cond.selects "CheriCore$CapabilityUnit" ({ cls := "CheriCore$CapabilityUnit", name := "special", desc := "(LCheriCore$Instruction;LCheriCore$Capability;)I" } : Jvm.MethodName) ({ cls := "CheriCore$CapabilityUnit", name := "special", desc := "(LCheriCore$Instruction;LCheriCore$Capability;)I" } : Jvm.MethodName)) ∈ TB := tbm_s (List.mem_of_getElem? (i := 12) (by decide +kernel))
theorem tb_s_13 : (Jvm.Cond.selects "CheriCore$CapabilityUnit" ({ cls := "CheriCore$CapabilityUnit", name := "bounded", desc := "(LCheriCore$Instruction;LCheriCore$Capability;JZ)I" } : Jvm.MethodName) ({ cls := "CheriCore$CapabilityUnit", name := "bounded", desc := "(LCheriCore$Instruction;LCheriCore$Capability;JZ)I" } : Jvm.MethodName)) ∈ TB := tbm_s (List.mem_of_getElem? (i := 13) (by decide +kernel))
theorem tb_s_14 : (Jvm.Cond.selects "CheriCore$CapabilityUnit" ({ cls := "CheriCore$CapabilityUnit", name := "seal", desc := "(LCheriCore$Instruction;LCheriCore$Capability;LCheriCore$Capability;)I" } : Jvm.MethodName) ({ cls := "CheriCore$CapabilityUnit", name := "seal", desc := "(LCheriCore$Instruction;LCheriCore$Capability;LCheriCore$Capability;)I" } : Jvm.MethodName)) ∈ TB := tbm_s (List.mem_of_getElem? (i := 14) (by decide +kernel))
theorem tb_s_15 : (Jvm.Cond.selects "CheriCore$CapabilityUnit" ({ cls := "CheriCore$CapabilityUnit", name := "unseal", desc := "(LCheriCore$Instruction;LCheriCore$Capability;LCheriCore$Capability;)I" } : Jvm.MethodName) ({ cls := "CheriCore$CapabilityUnit", name := "unseal", desc := "(LCheriCore$Instruction;LCheriCore$Capability;LCheriCore$Capability;)I" } : Jvm.MethodName)) ∈ TB := tbm_s (List.mem_of_getElem? (i := 15) (by decide +kernel))
theorem tb_s_16 : (Jvm.Cond.selects "CheriCore$CapabilityUnit" ({ cls := "CheriCore$CapabilityUnit", name := "andPerms", desc := "(LCheriCore$Instruction;LCheriCore$Capability;I)I" } : Jvm.MethodName) ({ cls := "CheriCore$CapabilityUnit", name := "andPerms", desc := "(LCheriCore$Instruction;LCheriCore$Capability;I)I" } : Jvm.MethodName)) ∈ TB := tbm_s (List.mem_of_getElem? (i := 16) (by decide +kernel))
theorem tb_s_17 : (Jvm.Cond.selects "CheriCore$CapabilityUnit" ({ cls := "CheriCore$CapabilityUnit", name := "move", desc := "(LCheriCore$Instruction;LCheriCore$Capability;I)I" } : Jvm.MethodName) ({ cls := "CheriCore$CapabilityUnit", name := "move", desc := "(LCheriCore$Instruction;LCheriCore$Capability;I)I" } : Jvm.MethodName)) ∈ TB := tbm_s (List.mem_of_getElem? (i := 17) (by decide +kernel))
theorem tb_s_18 : (Jvm.Cond.selects "CheriCore$CapabilityUnit" ({ cls := "CheriCore$CapabilityUnit", name := "setHigh", desc := "(LCheriCore$Instruction;LCheriCore$Capability;I)I" } : Jvm.MethodName) ({ cls := "CheriCore$CapabilityUnit", name := "setHigh", desc := "(LCheriCore$Instruction;LCheriCore$Capability;I)I" } : Jvm.MethodName)) ∈ TB := tbm_s (List.mem_of_getElem? (i := 18) (by decide +kernel))
theorem tb_s_19 : (Jvm.Cond.selects "CheriCore$CapabilityUnit" ({ cls := "CheriCore$CapabilityUnit", name := "build", desc := "(LCheriCore$Instruction;LCheriCore$Capability;LCheriCore$Capability;)I" } : Jvm.MethodName) ({ cls := "CheriCore$CapabilityUnit", name := "build", desc := "(LCheriCore$Instruction;LCheriCore$Capability;LCheriCore$Capability;)I" } : Jvm.MethodName)) ∈ TB := tbm_s (List.mem_of_getElem? (i := 19) (by decide +kernel))
theorem tb_s_2 : (Jvm.Cond.selects "CheriCore$Memory" ({ cls := "CheriCore$Memory", name := "seenTags", desc := "(I)I" } : Jvm.MethodName) ({ cls := "CheriCore$Memory", name := "seenTags", desc := "(I)I" } : Jvm.MethodName)) ∈ TB := tbm_s (List.mem_of_getElem? (i := 2) (by decide +kernel))
theorem tb_s_20 : (Jvm.Cond.selects "CheriCore$CapabilityUnit" ({ cls := "CheriCore$CapabilityUnit", name := "invoke", desc := "(LCheriCore$Instruction;LCheriCore$Capability;LCheriCore$Capability;)I" } : Jvm.MethodName) ({ cls := "CheriCore$CapabilityUnit", name := "invoke", desc := "(LCheriCore$Instruction;LCheriCore$Capability;LCheriCore$Capability;)I" } : Jvm.MethodName)) ∈ TB := tbm_s (List.mem_of_getElem? (i := 20) (by decide +kernel))
theorem tb_s_21 : (Jvm.Cond.selects "CheriCore$CapabilityUnit" ({ cls := "CheriCore$CapabilityUnit", name := "invokeFault", desc := "(LCheriCore$Instruction;LCheriCore$Capability;LCheriCore$Capability;)I" } : Jvm.MethodName) ({ cls := "CheriCore$CapabilityUnit", name := "invokeFault", desc := "(LCheriCore$Instruction;LCheriCore$Capability;LCheriCore$Capability;)I" } : Jvm.MethodName)) ∈ TB := tbm_s (List.mem_of_getElem? (i := 21) (by decide +kernel))
theorem tb_s_22 : (Jvm.Cond.selects "CheriCore$CapabilityUnit" ({ cls := "CheriCore$CapabilityUnit", name := "inspect", desc := "(LCheriCore$Instruction;LCheriCore$Capability;)I" } : Jvm.MethodName) ({ cls := "CheriCore$CapabilityUnit", name := "inspect", desc := "(LCheriCore$Instruction;LCheriCore$Capability;)I" } : Jvm.MethodName)) ∈ TB := tbm_s (List.mem_of_getElem? (i := 22) (by decide +kernel))
theorem tb_s_23 : (Jvm.Cond.selects "CheriCore$CapabilityUnit" ({ cls := "CheriCore$CapabilityUnit", name := "representable", desc := "(LCheriCore$Instruction;IZ)I" } : Jvm.MethodName) ({ cls := "CheriCore$CapabilityUnit", name := "representable", desc := "(LCheriCore$Instruction;IZ)I" } : Jvm.MethodName)) ∈ TB := tbm_s (List.mem_of_getElem? (i := 23) (by decide +kernel))
theorem tb_s_24 : (Jvm.Cond.selects "CheriCore$CapabilityUnit" ({ cls := "CheriCore$CapabilityUnit", name := "copy", desc := "(LCheriCore$Instruction;LCheriCore$Capability;Z)I" } : Jvm.MethodName) ({ cls := "CheriCore$CapabilityUnit", name := "copy", desc := "(LCheriCore$Instruction;LCheriCore$Capability;Z)I" } : Jvm.MethodName)) ∈ TB := tbm_s (List.mem_of_getElem? (i := 24) (by decide +kernel))
theorem tb_s_25 : (Jvm.Cond.selects "CheriCore$CapabilityUnit" ({ cls := "CheriCore$CapabilityUnit", name := "sealEntry", desc := "(LCheriCore$Instruction;LCheriCore$Capability;)I" } : Jvm.MethodName) ({ cls := "CheriCore$CapabilityUnit", name := "sealEntry", desc := "(LCheriCore$Instruction;LCheriCore$Capability;)I" } : Jvm.MethodName)) ∈ TB := tbm_s (List.mem_of_getElem? (i := 25) (by decide +kernel))
theorem tb_s_26 : (Jvm.Cond.selects "CheriCore$BaseUnit" ({ cls := "CheriCore$BaseUnit", name := "load", desc := "(LCheriCore$Instruction;)I" } : Jvm.MethodName) ({ cls := "CheriCore$BaseUnit", name := "load", desc := "(LCheriCore$Instruction;)I" } : Jvm.MethodName)) ∈ TB := tbm_s (List.mem_of_getElem? (i := 26) (by decide +kernel))
theorem tb_s_27 : (Jvm.Cond.selects "CheriCore$BaseUnit" ({ cls := "CheriCore$BaseUnit", name := "loadCapability", desc := "(LCheriCore$Instruction;I)I" } : Jvm.MethodName) ({ cls := "CheriCore$BaseUnit", name := "loadCapability", desc := "(LCheriCore$Instruction;I)I" } : Jvm.MethodName)) ∈ TB := tbm_s (List.mem_of_getElem? (i := 27) (by decide +kernel))
theorem tb_s_28 : (Jvm.Cond.selects "CheriCore$BaseUnit" ({ cls := "CheriCore$BaseUnit", name := "loaded", desc := "(II)I" } : Jvm.MethodName) ({ cls := "CheriCore$BaseUnit", name := "loaded", desc := "(II)I" } : Jvm.MethodName)) ∈ TB := tbm_s (List.mem_of_getElem? (i := 28) (by decide +kernel))
theorem tb_s_29 : (Jvm.Cond.selects "CheriCore$BaseUnit" ({ cls := "CheriCore$BaseUnit", name := "operateImmediate", desc := "(LCheriCore$Instruction;)I" } : Jvm.MethodName) ({ cls := "CheriCore$BaseUnit", name := "operateImmediate", desc := "(LCheriCore$Instruction;)I" } : Jvm.MethodName)) ∈ TB := tbm_s (List.mem_of_getElem? (i := 29) (by decide +kernel))
theorem tb_s_3 : (Jvm.Cond.selects "CheriCore$Memory" ({ cls := "CheriCore$Memory", name := "wordsUnlikeMemory", desc := "(II)I" } : Jvm.MethodName) ({ cls := "CheriCore$Memory", name := "wordsUnlikeMemory", desc := "(II)I" } : Jvm.MethodName)) ∈ TB := tbm_s (List.mem_of_getElem? (i := 3) (by decide +kernel))
theorem tb_s_30 : (Jvm.Cond.selects "CheriCore$BaseUnit" ({ cls := "CheriCore$BaseUnit", name := "addToPcc", desc := "(LCheriCore$Instruction;)I" } : Jvm.MethodName) ({ cls := "CheriCore$BaseUnit", name := "addToPcc", desc := "(LCheriCore$Instruction;)I" } : Jvm.MethodName)) ∈ TB := tbm_s (List.mem_of_getElem? (i := 30) (by decide +kernel))
theorem tb_s_31 : (Jvm.Cond.selects "CheriCore$BaseUnit" ({ cls := "CheriCore$BaseUnit", name := "store", desc := "(LCheriCore$Instruction;)I" } : Jvm.MethodName) ({ cls := "CheriCore$BaseUnit", name := "store", desc := "(LCheriCore$Instruction;)I" } : Jvm.MethodName)) ∈ TB := tbm_s (List.mem_of_getElem? (i := 31) (by decide +kernel))
theorem tb_s_32 : (Jvm.Cond.selects "CheriCore$BaseUnit" ({ cls := "CheriCore$BaseUnit", name := "capabilityStoreFault", desc := "(LCheriCore$Instruction;)I" } : Jvm.MethodName) ({ cls := "CheriCore$BaseUnit", name := "capabilityStoreFault", desc := "(LCheriCore$Instruction;)I" } : Jvm.MethodName)) ∈ TB := tbm_s (List.mem_of_getElem? (i := 32) (by decide +kernel))
theorem tb_s_33 : (Jvm.Cond.selects "CheriCore$BaseUnit" ({ cls := "CheriCore$BaseUnit", name := "storeCapability", desc := "(ILCheriCore$Capability;)V" } : Jvm.MethodName) ({ cls := "CheriCore$BaseUnit", name := "storeCapability", desc := "(ILCheriCore$Capability;)V" } : Jvm.MethodName)) ∈ TB := tbm_s (List.mem_of_getElem? (i := 33) (by decide +kernel))
theorem tb_s_34 : (Jvm.Cond.selects "CheriCore$BaseUnit" ({ cls := "CheriCore$BaseUnit", name := "storeNumber", desc := "(III)V" } : Jvm.MethodName) ({ cls := "CheriCore$BaseUnit", name := "storeNumber", desc := "(III)V" } : Jvm.MethodName)) ∈ TB := tbm_s (List.mem_of_getElem? (i := 34) (by decide +kernel))
theorem tb_s_35 : (Jvm.Cond.selects "CheriCore$BaseUnit" ({ cls := "CheriCore$BaseUnit", name := "operate", desc := "(LCheriCore$Instruction;)I" } : Jvm.MethodName) ({ cls := "CheriCore$BaseUnit", name := "operate", desc := "(LCheriCore$Instruction;)I" } : Jvm.MethodName)) ∈ TB := tbm_s (List.mem_of_getElem? (i := 35) (by decide +kernel))
theorem tb_s_36 : (Jvm.Cond.selects "CheriCore$BaseUnit" ({ cls := "CheriCore$BaseUnit", name := "branch", desc := "(LCheriCore$Instruction;)I" } : Jvm.MethodName) ({ cls := "CheriCore$BaseUnit", name := "branch", desc := "(LCheriCore$Instruction;)I" } : Jvm.MethodName)) ∈ TB := tbm_s (List.mem_of_getElem? (i := 36) (by decide +kernel))
theorem tb_s_37 : (Jvm.Cond.selects "CheriCore$BaseUnit" ({ cls := "CheriCore$BaseUnit", name := "jumpFault", desc := "(I)I" } : Jvm.MethodName) ({ cls := "CheriCore$BaseUnit", name := "jumpFault", desc := "(I)I" } : Jvm.MethodName)) ∈ TB := tbm_s (List.mem_of_getElem? (i := 37) (by decide +kernel))
theorem tb_s_38 : (Jvm.Cond.selects "CheriCore$BaseUnit" ({ cls := "CheriCore$BaseUnit", name := "jumpByRegister", desc := "(LCheriCore$Instruction;)I" } : Jvm.MethodName) ({ cls := "CheriCore$BaseUnit", name := "jumpByRegister", desc := "(LCheriCore$Instruction;)I" } : Jvm.MethodName)) ∈ TB := tbm_s (List.mem_of_getElem? (i := 38) (by decide +kernel))
theorem tb_s_39 : (Jvm.Cond.selects "CheriCore$BaseUnit" ({ cls := "CheriCore$BaseUnit", name := "jump", desc := "(LCheriCore$Instruction;)I" } : Jvm.MethodName) ({ cls := "CheriCore$BaseUnit", name := "jump", desc := "(LCheriCore$Instruction;)I" } : Jvm.MethodName)) ∈ TB := tbm_s (List.mem_of_getElem? (i := 39) (by decide +kernel))
theorem tb_s_40 : (Jvm.Cond.selects "CheriCore$BaseUnit" ({ cls := "CheriCore$BaseUnit", name := "system", desc := "(LCheriCore$Instruction;)I" } : Jvm.MethodName) ({ cls := "CheriCore$BaseUnit", name := "system", desc := "(LCheriCore$Instruction;)I" } : Jvm.MethodName)) ∈ TB := tbm_s (List.mem_of_getElem? (i := 40) (by decide +kernel))
theorem tb_s_41 : (Jvm.Cond.selects "CheriCore$BaseUnit" ({ cls := "CheriCore$BaseUnit", name := "changeCsr", desc := "(LCheriCore$Instruction;Z)I" } : Jvm.MethodName) ({ cls := "CheriCore$BaseUnit", name := "changeCsr", desc := "(LCheriCore$Instruction;Z)I" } : Jvm.MethodName)) ∈ TB := tbm_s (List.mem_of_getElem? (i := 41) (by decide +kernel))
theorem tb_s_42 : (Jvm.Cond.selects "CheriCore$BaseUnit" ({ cls := "CheriCore$BaseUnit", name := "returnFromTrap", desc := "()I" } : Jvm.MethodName) ({ cls := "CheriCore$BaseUnit", name := "returnFromTrap", desc := "()I" } : Jvm.MethodName)) ∈ TB := tbm_s (List.mem_of_getElem? (i := 42) (by decide +kernel))
theorem tb_s_43 : (Jvm.Cond.selects "CheriCore" ({ cls := "CheriCore", name := "takeTrap", desc := "(I)V" } : Jvm.MethodName) ({ cls := "CheriCore", name := "takeTrap", desc := "(I)V" } : Jvm.MethodName)) ∈ TB := tbm_s (List.mem_of_getElem? (i := 43) (by decide +kernel))
theorem tb_s_44 : (Jvm.Cond.selects "CheriCoreModel" ({ cls := "CheriCoreModel", name := "fail", desc := "(I)I" } : Jvm.MethodName) ({ cls := "CheriCoreModel", name := "fail", desc := "(I)I" } : Jvm.MethodName)) ∈ TB := tbm_s (List.mem_of_getElem? (i := 44) (by decide +kernel))
theorem tb_s_45 : (Jvm.Cond.selects "CheriCoreModel" ({ cls := "CheriCoreModel", name := "pack", desc := "(JJ)V" } : Jvm.MethodName) ({ cls := "CheriCoreModel", name := "pack", desc := "(JJ)V" } : Jvm.MethodName)) ∈ TB := tbm_s (List.mem_of_getElem? (i := 45) (by decide +kernel))
theorem tb_s_46 : (Jvm.Cond.selects "CheriCoreModel" ({ cls := "CheriCoreModel", name := "set", desc := "(IZII)V" } : Jvm.MethodName) ({ cls := "CheriCoreModel", name := "set", desc := "(IZII)V" } : Jvm.MethodName)) ∈ TB := tbm_s (List.mem_of_getElem? (i := 46) (by decide +kernel))
theorem tb_s_47 : (Jvm.Cond.selects "CheriCoreModel" ({ cls := "CheriCoreModel", name := "step", desc := "()V" } : Jvm.MethodName) ({ cls := "CheriCoreModel", name := "step", desc := "()V" } : Jvm.MethodName)) ∈ TB := tbm_s (List.mem_of_getElem? (i := 47) (by decide +kernel))
theorem tb_s_48 : (Jvm.Cond.selects "CheriCoreModel" ({ cls := "CheriCoreModel", name := "stop", desc := "()I" } : Jvm.MethodName) ({ cls := "CheriCoreModel", name := "stop", desc := "()I" } : Jvm.MethodName)) ∈ TB := tbm_s (List.mem_of_getElem? (i := 48) (by decide +kernel))
theorem tb_s_49 : (Jvm.Cond.selects "CheriCoreModel" ({ cls := "CheriCoreModel", name := "reach", desc := "(IJIII)I" } : Jvm.MethodName) ({ cls := "CheriCoreModel", name := "reach", desc := "(IJIII)I" } : Jvm.MethodName)) ∈ TB := tbm_s (List.mem_of_getElem? (i := 49) (by decide +kernel))
theorem tb_s_5 : (Jvm.Cond.selects "CheriCore$Memory" ({ cls := "CheriCore$Memory", name := "slotOf", desc := "(I)I" } : Jvm.MethodName) ({ cls := "CheriCore$Memory", name := "slotOf", desc := "(I)I" } : Jvm.MethodName)) ∈ TB := tbm_s (List.mem_of_getElem? (i := 5) (by decide +kernel))
theorem tb_s_50 : (Jvm.Cond.selects "CheriCoreModel" ({ cls := "CheriCoreModel", name := "isOpen", desc := "(I)Z" } : Jvm.MethodName) ({ cls := "CheriCoreModel", name := "isOpen", desc := "(I)Z" } : Jvm.MethodName)) ∈ TB := tbm_s (List.mem_of_getElem? (i := 50) (by decide +kernel))
theorem tb_s_51 : (Jvm.Cond.selects "CheriCoreModel" ({ cls := "CheriCoreModel", name := "has", desc := "(II)Z" } : Jvm.MethodName) ({ cls := "CheriCoreModel", name := "has", desc := "(II)Z" } : Jvm.MethodName)) ∈ TB := tbm_s (List.mem_of_getElem? (i := 51) (by decide +kernel))
theorem tb_s_52 : (Jvm.Cond.selects "CheriCoreModel" ({ cls := "CheriCoreModel", name := "holds", desc := "(IJI)Z" } : Jvm.MethodName) ({ cls := "CheriCoreModel", name := "holds", desc := "(IJI)Z" } : Jvm.MethodName)) ∈ TB := tbm_s (List.mem_of_getElem? (i := 52) (by decide +kernel))
theorem tb_s_53 : (Jvm.Cond.selects "CheriCoreModel" ({ cls := "CheriCoreModel", name := "trap", desc := "(II)Z" } : Jvm.MethodName) ({ cls := "CheriCoreModel", name := "trap", desc := "(II)Z" } : Jvm.MethodName)) ∈ TB := tbm_s (List.mem_of_getElem? (i := 53) (by decide +kernel))
theorem tb_s_54 : (Jvm.Cond.selects "CheriCoreModel" ({ cls := "CheriCoreModel", name := "copy", desc := "(II)V" } : Jvm.MethodName) ({ cls := "CheriCoreModel", name := "copy", desc := "(II)V" } : Jvm.MethodName)) ∈ TB := tbm_s (List.mem_of_getElem? (i := 54) (by decide +kernel))
theorem tb_s_55 : (Jvm.Cond.selects "CheriCoreModel" ({ cls := "CheriCoreModel", name := "instruction", desc := "(I)Z" } : Jvm.MethodName) ({ cls := "CheriCoreModel", name := "instruction", desc := "(I)Z" } : Jvm.MethodName)) ∈ TB := tbm_s (List.mem_of_getElem? (i := 55) (by decide +kernel))
theorem tb_s_56 : (Jvm.Cond.selects "CheriCoreModel" ({ cls := "CheriCoreModel", name := "number", desc := "(II)V" } : Jvm.MethodName) ({ cls := "CheriCoreModel", name := "number", desc := "(II)V" } : Jvm.MethodName)) ∈ TB := tbm_s (List.mem_of_getElem? (i := 56) (by decide +kernel))
theorem tb_s_57 : (Jvm.Cond.selects "CheriCoreModel" ({ cls := "CheriCoreModel", name := "moved", desc := "(III)V" } : Jvm.MethodName) ({ cls := "CheriCoreModel", name := "moved", desc := "(III)V" } : Jvm.MethodName)) ∈ TB := tbm_s (List.mem_of_getElem? (i := 57) (by decide +kernel))
theorem tb_s_58 : (Jvm.Cond.selects "CheriCoreModel" ({ cls := "CheriCoreModel", name := "same", desc := "(III)Z" } : Jvm.MethodName) ({ cls := "CheriCoreModel", name := "same", desc := "(III)Z" } : Jvm.MethodName)) ∈ TB := tbm_s (List.mem_of_getElem? (i := 58) (by decide +kernel))
theorem tb_s_59 : (Jvm.Cond.selects "CheriCoreModel" ({ cls := "CheriCoreModel", name := "link", desc := "()V" } : Jvm.MethodName) ({ cls := "CheriCoreModel", name := "link", desc := "()V" } : Jvm.MethodName)) ∈ TB := tbm_s (List.mem_of_getElem? (i := 59) (by decide +kernel))
theorem tb_s_6 : (Jvm.Cond.selects "CheriCore$Packer" ({ cls := "CheriCore$Packer", name := "roundedDown", desc := "(J)J" } : Jvm.MethodName) ({ cls := "CheriCore$Packer", name := "roundedDown", desc := "(J)J" } : Jvm.MethodName)) ∈ TB := tbm_s (List.mem_of_getElem? (i := 6) (by decide +kernel))
theorem tb_s_60 : (Jvm.Cond.selects "CheriCoreModel" ({ cls := "CheriCoreModel", name := "jump", desc := "(I)Z" } : Jvm.MethodName) ({ cls := "CheriCoreModel", name := "jump", desc := "(I)Z" } : Jvm.MethodName)) ∈ TB := tbm_s (List.mem_of_getElem? (i := 60) (by decide +kernel))
theorem tb_s_61 : (Jvm.Cond.selects "CheriCoreModel" ({ cls := "CheriCoreModel", name := "jumpBy", desc := "(IIII)Z" } : Jvm.MethodName) ({ cls := "CheriCoreModel", name := "jumpBy", desc := "(IIII)Z" } : Jvm.MethodName)) ∈ TB := tbm_s (List.mem_of_getElem? (i := 61) (by decide +kernel))
theorem tb_s_62 : (Jvm.Cond.selects "CheriCoreModel" ({ cls := "CheriCoreModel", name := "broken", desc := "(II)Z" } : Jvm.MethodName) ({ cls := "CheriCoreModel", name := "broken", desc := "(II)Z" } : Jvm.MethodName)) ∈ TB := tbm_s (List.mem_of_getElem? (i := 62) (by decide +kernel))
theorem tb_s_63 : (Jvm.Cond.selects "CheriCoreModel" ({ cls := "CheriCoreModel", name := "load", desc := "(IIII)Z" } : Jvm.MethodName) ({ cls := "CheriCoreModel", name := "load", desc := "(IIII)Z" } : Jvm.MethodName)) ∈ TB := tbm_s (List.mem_of_getElem? (i := 63) (by decide +kernel))
theorem tb_s_64 : (Jvm.Cond.selects "CheriCoreModel" ({ cls := "CheriCoreModel", name := "store", desc := "(IIII)Z" } : Jvm.MethodName) ({ cls := "CheriCoreModel", name := "store", desc := "(IIII)Z" } : Jvm.MethodName)) ∈ TB := tbm_s (List.mem_of_getElem? (i := 64) (by decide +kernel))
theorem tb_s_65 : (Jvm.Cond.selects "CheriCoreModel" ({ cls := "CheriCoreModel", name := "system", desc := "(IIIII)Z" } : Jvm.MethodName) ({ cls := "CheriCoreModel", name := "system", desc := "(IIIII)Z" } : Jvm.MethodName)) ∈ TB := tbm_s (List.mem_of_getElem? (i := 65) (by decide +kernel))
theorem tb_s_66 : (Jvm.Cond.selects "CheriCoreModel" ({ cls := "CheriCoreModel", name := "special", desc := "(IIIIII)Z" } : Jvm.MethodName) ({ cls := "CheriCoreModel", name := "special", desc := "(IIIIII)Z" } : Jvm.MethodName)) ∈ TB := tbm_s (List.mem_of_getElem? (i := 66) (by decide +kernel))
theorem tb_s_67 : (Jvm.Cond.selects "CheriCoreModel" ({ cls := "CheriCoreModel", name := "bounds", desc := "(IIJZ)Z" } : Jvm.MethodName) ({ cls := "CheriCoreModel", name := "bounds", desc := "(IIJZ)Z" } : Jvm.MethodName)) ∈ TB := tbm_s (List.mem_of_getElem? (i := 67) (by decide +kernel))
theorem tb_s_68 : (Jvm.Cond.selects "CheriCoreModel" ({ cls := "CheriCoreModel", name := "isWithin", desc := "(II)Z" } : Jvm.MethodName) ({ cls := "CheriCoreModel", name := "isWithin", desc := "(II)Z" } : Jvm.MethodName)) ∈ TB := tbm_s (List.mem_of_getElem? (i := 68) (by decide +kernel))
theorem tb_s_69 : (Jvm.Cond.selects "CheriCoreModel" ({ cls := "CheriCoreModel", name := "isAmong", desc := "(II)Z" } : Jvm.MethodName) ({ cls := "CheriCoreModel", name := "isAmong", desc := "(II)Z" } : Jvm.MethodName)) ∈ TB := tbm_s (List.mem_of_getElem? (i := 69) (by decide +kernel))
theorem tb_s_7 : (Jvm.Cond.selects "CheriCore$Packer" ({ cls := "CheriCore$Packer", name := "roundedUp", desc := "(J)J" } : Jvm.MethodName) ({ cls := "CheriCore$Packer", name := "roundedUp", desc := "(J)J" } : Jvm.MethodName)) ∈ TB := tbm_s (List.mem_of_getElem? (i := 7) (by decide +kernel))
theorem tb_s_70 : (Jvm.Cond.selects "CheriCoreModel" ({ cls := "CheriCoreModel", name := "invoke", desc := "(II)Z" } : Jvm.MethodName) ({ cls := "CheriCoreModel", name := "invoke", desc := "(II)Z" } : Jvm.MethodName)) ∈ TB := tbm_s (List.mem_of_getElem? (i := 70) (by decide +kernel))
theorem tb_s_71 : (Jvm.Cond.selects "CheriCoreModel" ({ cls := "CheriCoreModel", name := "asked", desc := "(IIII)Z" } : Jvm.MethodName) ({ cls := "CheriCoreModel", name := "asked", desc := "(IIII)Z" } : Jvm.MethodName)) ∈ TB := tbm_s (List.mem_of_getElem? (i := 71) (by decide +kernel))
theorem tb_s_72 : (Jvm.Cond.selects "CheriCoreModel" ({ cls := "CheriCoreModel", name := "isOfRoot", desc := "(II)Z" } : Jvm.MethodName) ({ cls := "CheriCoreModel", name := "isOfRoot", desc := "(II)Z" } : Jvm.MethodName)) ∈ TB := tbm_s (List.mem_of_getElem? (i := 72) (by decide +kernel))
theorem tb_s_8 : (Jvm.Cond.selects "CheriCore" ({ cls := "CheriCore", name := "step", desc := "()V" } : Jvm.MethodName) ({ cls := "CheriCore", name := "step", desc := "()V" } : Jvm.MethodName)) ∈ TB := tbm_s (List.mem_of_getElem? (i := 8) (by decide +kernel))
theorem tb_s_9 : (Jvm.Cond.selects "CheriCore$Instruction" ({ cls := "CheriCore$Instruction", name := "immediateOf", desc := "()I" } : Jvm.MethodName) ({ cls := "CheriCore$Instruction", name := "immediateOf", desc := "()I" } : Jvm.MethodName)) ∈ TB := tbm_s (List.mem_of_getElem? (i := 9) (by decide +kernel))
theorem tb_1_0 : (Jvm.Cond.initialized "CheriCoreLaw") ∈ TB := tbm_1 (List.mem_of_getElem? (i := 0) (by decide +kernel))
theorem tb_1_1 : (Jvm.Cond.initialized "CheriCore") ∈ TB := tbm_1 (List.mem_of_getElem? (i := 1) (by decide +kernel))
theorem tb_1_10 : (Jvm.Cond.initialized "CheriCore$CapabilityUnit") ∈ TB := tbm_1 (List.mem_of_getElem? (i := 10) (by decide +kernel))
theorem tb_1_100 : (Jvm.Cond.classLink "CheriCore$Memory" (22 : Nat) "CheriCore$Directory") ∈ TB := tbm_1 (List.mem_of_getElem? (i := 100) (by decide +kernel))
theorem tb_1_101 : (Jvm.Cond.instantiable "CheriCore$Directory" (2 : Nat)) ∈ TB := tbm_1 (List.mem_of_getElem? (i := 101) (by decide +kernel))
theorem tb_1_102 : (Jvm.Cond.methodLink "CheriCore$Memory" (24 : Nat) ({ cls := "CheriCore$Directory", name := "<init>", desc := "()V" } : Jvm.MethodName)) ∈ TB := tbm_1 (List.mem_of_getElem? (i := 102) (by decide +kernel))
theorem tb_1_103 : (Jvm.Cond.instanceMethod ({ cls := "CheriCore$Directory", name := "<init>", desc := "()V" } : Jvm.MethodName)) ∈ TB := tbm_1 (List.mem_of_getElem? (i := 103) (by decide +kernel))
theorem tb_1_104 : (Jvm.Cond.code ({ cls := "CheriCore$Directory", name := "<init>", desc := "()V" } : Jvm.MethodName) prog_5_method_1_code (2 : Nat) (Option.none : Option Jvm.ClassFile.FieldType)) ∈ TB := tbm_1 (List.mem_of_getElem? (i := 104) (rfl))
theorem tb_1_105 : (Jvm.Cond.methodLink "CheriCore$Directory" (5 : Nat) ({ cls := "java/lang/Object", name := "<init>", desc := "()V" } : Jvm.MethodName)) ∈ TB := tbm_1 (List.mem_of_getElem? (i := 105) (by decide +kernel))
theorem tb_1_106 : (Jvm.Cond.fieldLink "CheriCore$Directory" (11 : Nat) "CheriCore$Directory" "lines" "[I") ∈ TB := tbm_1 (List.mem_of_getElem? (i := 106) (by decide +kernel))
theorem tb_1_107 : (Jvm.Cond.fieldLink "CheriCore$Memory" (64 : Nat) "CheriCore$Directory" "lines" "[I") ∈ TB := tbm_1 (List.mem_of_getElem? (i := 107) (by decide +kernel))
theorem tb_1_108 : (Jvm.Cond.fieldLink "CheriCore$Directory" (15 : Nat) "CheriCore$Directory" "nextWay" "[I") ∈ TB := tbm_1 (List.mem_of_getElem? (i := 108) (by decide +kernel))
theorem tb_1_109 : (Jvm.Cond.laysFinal "CheriCore$Directory" "CheriCore$Directory" "lines" "[I") ∈ TB := tbm_1 (List.mem_of_getElem? (i := 109) (by decide +kernel))
theorem tb_1_11 : (Jvm.Cond.initialized "CheriCore$Packer") ∈ TB := tbm_1 (List.mem_of_getElem? (i := 11) (by decide +kernel))
theorem tb_1_111 : (Jvm.Cond.laysFinal "CheriCore$Directory" "CheriCore$Directory" "nextWay" "[I") ∈ TB := tbm_1 (List.mem_of_getElem? (i := 111) (by decide +kernel))
theorem tb_1_114 : (Jvm.Cond.fieldLink "CheriCore$Memory" (9 : Nat) "CheriCore$Memory" "words" "[I") ∈ TB := tbm_1 (List.mem_of_getElem? (i := 114) (by decide +kernel))
theorem tb_1_115 : (Jvm.Cond.fieldLink "CheriCore$Memory" (18 : Nat) "CheriCore$Memory" "tagStore" "LCheriCore$TagStore;") ∈ TB := tbm_1 (List.mem_of_getElem? (i := 115) (by decide +kernel))
theorem tb_1_116 : (Jvm.Cond.fieldLink "CheriCore$Memory" (25 : Nat) "CheriCore$Memory" "directory" "LCheriCore$Directory;") ∈ TB := tbm_1 (List.mem_of_getElem? (i := 116) (by decide +kernel))
theorem tb_1_117 : (Jvm.Cond.fieldLink "CheriCore$Memory" (29 : Nat) "CheriCore$Memory" "cached" "[I") ∈ TB := tbm_1 (List.mem_of_getElem? (i := 117) (by decide +kernel))
theorem tb_1_118 : (Jvm.Cond.fieldLink "CheriCore$Memory" (32 : Nat) "CheriCore$Memory" "cachedTags" "[I") ∈ TB := tbm_1 (List.mem_of_getElem? (i := 118) (by decide +kernel))
theorem tb_1_119 : (Jvm.Cond.fieldLink "CheriCore$Memory" (35 : Nat) "CheriCore$Memory" "written" "[Z") ∈ TB := tbm_1 (List.mem_of_getElem? (i := 119) (by decide +kernel))
theorem tb_1_12 : (Jvm.Cond.initialized "CheriCoreModel") ∈ TB := tbm_1 (List.mem_of_getElem? (i := 12) (by decide +kernel))
theorem tb_1_120 : (Jvm.Cond.laysFinal "CheriCore$Memory" "CheriCore$Memory" "words" "[I") ∈ TB := tbm_1 (List.mem_of_getElem? (i := 120) (by decide +kernel))
theorem tb_1_122 : (Jvm.Cond.laysFinal "CheriCore$Memory" "CheriCore$Memory" "tagStore" "LCheriCore$TagStore;") ∈ TB := tbm_1 (List.mem_of_getElem? (i := 122) (by decide +kernel))
theorem tb_1_124 : (Jvm.Cond.laysFinal "CheriCore$Memory" "CheriCore$Memory" "directory" "LCheriCore$Directory;") ∈ TB := tbm_1 (List.mem_of_getElem? (i := 124) (by decide +kernel))
theorem tb_1_126 : (Jvm.Cond.laysFinal "CheriCore$Memory" "CheriCore$Memory" "cached" "[I") ∈ TB := tbm_1 (List.mem_of_getElem? (i := 126) (by decide +kernel))
theorem tb_1_128 : (Jvm.Cond.laysFinal "CheriCore$Memory" "CheriCore$Memory" "cachedTags" "[I") ∈ TB := tbm_1 (List.mem_of_getElem? (i := 128) (by decide +kernel))
theorem tb_1_130 : (Jvm.Cond.laysFinal "CheriCore$Memory" "CheriCore$Memory" "written" "[Z") ∈ TB := tbm_1 (List.mem_of_getElem? (i := 130) (by decide +kernel))
theorem tb_1_133 : (Jvm.Cond.classLink "CheriCore$State" (29 : Nat) "CheriCore$Pipeline") ∈ TB := tbm_1 (List.mem_of_getElem? (i := 133) (by decide +kernel))
theorem tb_1_134 : (Jvm.Cond.instantiable "CheriCore$Pipeline" (5 : Nat)) ∈ TB := tbm_1 (List.mem_of_getElem? (i := 134) (by decide +kernel))
theorem tb_1_135 : (Jvm.Cond.methodLink "CheriCore$State" (31 : Nat) ({ cls := "CheriCore$Pipeline", name := "<init>", desc := "(LCheriCore$Memory;)V" } : Jvm.MethodName)) ∈ TB := tbm_1 (List.mem_of_getElem? (i := 135) (by decide +kernel))
theorem tb_1_136 : (Jvm.Cond.instanceMethod ({ cls := "CheriCore$Pipeline", name := "<init>", desc := "(LCheriCore$Memory;)V" } : Jvm.MethodName)) ∈ TB := tbm_1 (List.mem_of_getElem? (i := 136) (by decide +kernel))
theorem tb_1_137 : (Jvm.Cond.code ({ cls := "CheriCore$Pipeline", name := "<init>", desc := "(LCheriCore$Memory;)V" } : Jvm.MethodName) prog_9_method_1_code (2 : Nat) (Option.none : Option Jvm.ClassFile.FieldType)) ∈ TB := tbm_1 (List.mem_of_getElem? (i := 137) (rfl))
theorem tb_1_138 : (Jvm.Cond.methodLink "CheriCore$Pipeline" (3 : Nat) ({ cls := "java/lang/Object", name := "<init>", desc := "()V" } : Jvm.MethodName)) ∈ TB := tbm_1 (List.mem_of_getElem? (i := 138) (by decide +kernel))
theorem tb_1_139 : (Jvm.Cond.classLink "CheriCore$Pipeline" (9 : Nat) "CheriCore$Instruction") ∈ TB := tbm_1 (List.mem_of_getElem? (i := 139) (by decide +kernel))
theorem tb_1_14 : (Jvm.Cond.initialized "java/lang/Exception") ∈ TB := tbm_1 (List.mem_of_getElem? (i := 14) (by decide +kernel))
theorem tb_1_140 : (Jvm.Cond.instantiable "CheriCore$Instruction" (9 : Nat)) ∈ TB := tbm_1 (List.mem_of_getElem? (i := 140) (by decide +kernel))
theorem tb_1_142 : (Jvm.Cond.instanceMethod ({ cls := "CheriCore$Instruction", name := "<init>", desc := "()V" } : Jvm.MethodName)) ∈ TB := tbm_1 (List.mem_of_getElem? (i := 142) (by decide +kernel))
theorem tb_1_143 : (Jvm.Cond.code ({ cls := "CheriCore$Instruction", name := "<init>", desc := "()V" } : Jvm.MethodName) prog_6_method_1_code (1 : Nat) (Option.none : Option Jvm.ClassFile.FieldType)) ∈ TB := tbm_1 (List.mem_of_getElem? (i := 143) (rfl))
theorem tb_1_144 : (Jvm.Cond.methodLink "CheriCore$Instruction" (3 : Nat) ({ cls := "java/lang/Object", name := "<init>", desc := "()V" } : Jvm.MethodName)) ∈ TB := tbm_1 (List.mem_of_getElem? (i := 144) (by decide +kernel))
theorem tb_1_145 : (Jvm.Cond.fieldLink "CheriCore$Instruction" (9 : Nat) "CheriCore$Instruction" "index" "I") ∈ TB := tbm_1 (List.mem_of_getElem? (i := 145) (by decide +kernel))
theorem tb_1_146 : (Jvm.Cond.fieldLink "CheriCore$Pipeline" (29 : Nat) "CheriCore$Instruction" "index" "I") ∈ TB := tbm_1 (List.mem_of_getElem? (i := 146) (by decide +kernel))
theorem tb_1_147 : (Jvm.Cond.fieldLink "CheriCore$Instruction" (15 : Nat) "CheriCore$Instruction" "bits" "I") ∈ TB := tbm_1 (List.mem_of_getElem? (i := 147) (by decide +kernel))
theorem tb_1_148 : (Jvm.Cond.fieldLink "CheriCore$State" (49 : Nat) "CheriCore$Instruction" "bits" "I") ∈ TB := tbm_1 (List.mem_of_getElem? (i := 148) (by decide +kernel))
theorem tb_1_149 : (Jvm.Cond.fieldLink "CheriCore$BaseUnit" (221 : Nat) "CheriCore$Instruction" "bits" "I") ∈ TB := tbm_1 (List.mem_of_getElem? (i := 149) (by decide +kernel))
theorem tb_1_15 : (Jvm.Cond.initialized "java/lang/RuntimeException") ∈ TB := tbm_1 (List.mem_of_getElem? (i := 15) (by decide +kernel))
theorem tb_1_150 : (Jvm.Cond.fieldLink "CheriCore$BaseUnit" (22 : Nat) "CheriCore$Instruction" "opcode" "I") ∈ TB := tbm_1 (List.mem_of_getElem? (i := 150) (by decide +kernel))
theorem tb_1_151 : (Jvm.Cond.fieldLink "CheriCore$Instruction" (18 : Nat) "CheriCore$Instruction" "opcode" "I") ∈ TB := tbm_1 (List.mem_of_getElem? (i := 151) (by decide +kernel))
theorem tb_1_152 : (Jvm.Cond.fieldLink "CheriCore" (217 : Nat) "CheriCore$Instruction" "opcode" "I") ∈ TB := tbm_1 (List.mem_of_getElem? (i := 152) (by decide +kernel))
theorem tb_1_153 : (Jvm.Cond.fieldLink "CheriCore$Instruction" (21 : Nat) "CheriCore$Instruction" "rd" "I") ∈ TB := tbm_1 (List.mem_of_getElem? (i := 153) (by decide +kernel))
theorem tb_1_154 : (Jvm.Cond.fieldLink "CheriCore$BaseUnit" (52 : Nat) "CheriCore$Instruction" "rd" "I") ∈ TB := tbm_1 (List.mem_of_getElem? (i := 154) (by decide +kernel))
theorem tb_1_155 : (Jvm.Cond.fieldLink "CheriCore$CapabilityUnit" (86 : Nat) "CheriCore$Instruction" "rd" "I") ∈ TB := tbm_1 (List.mem_of_getElem? (i := 155) (by decide +kernel))
theorem tb_1_156 : (Jvm.Cond.fieldLink "CheriCore$CapabilityUnit" (34 : Nat) "CheriCore$Instruction" "function" "I") ∈ TB := tbm_1 (List.mem_of_getElem? (i := 156) (by decide +kernel))
theorem tb_1_157 : (Jvm.Cond.fieldLink "CheriCore$Instruction" (24 : Nat) "CheriCore$Instruction" "function" "I") ∈ TB := tbm_1 (List.mem_of_getElem? (i := 157) (by decide +kernel))
theorem tb_1_158 : (Jvm.Cond.fieldLink "CheriCore$BaseUnit" (32 : Nat) "CheriCore$Instruction" "function" "I") ∈ TB := tbm_1 (List.mem_of_getElem? (i := 158) (by decide +kernel))
theorem tb_1_159 : (Jvm.Cond.fieldLink "CheriCore$CapabilityUnit" (28 : Nat) "CheriCore$Instruction" "rs1" "I") ∈ TB := tbm_1 (List.mem_of_getElem? (i := 159) (by decide +kernel))
theorem tb_1_16 : (Jvm.Cond.initialized "java/lang/IndexOutOfBoundsException") ∈ TB := tbm_1 (List.mem_of_getElem? (i := 16) (by decide +kernel))
theorem tb_1_160 : (Jvm.Cond.fieldLink "CheriCore$Instruction" (27 : Nat) "CheriCore$Instruction" "rs1" "I") ∈ TB := tbm_1 (List.mem_of_getElem? (i := 160) (by decide +kernel))
theorem tb_1_161 : (Jvm.Cond.fieldLink "CheriCore$BaseUnit" (105 : Nat) "CheriCore$Instruction" "rs1" "I") ∈ TB := tbm_1 (List.mem_of_getElem? (i := 161) (by decide +kernel))
theorem tb_1_162 : (Jvm.Cond.fieldLink "CheriCore$CapabilityUnit" (37 : Nat) "CheriCore$Instruction" "rs2" "I") ∈ TB := tbm_1 (List.mem_of_getElem? (i := 162) (by decide +kernel))
theorem tb_1_163 : (Jvm.Cond.fieldLink "CheriCore$Instruction" (30 : Nat) "CheriCore$Instruction" "rs2" "I") ∈ TB := tbm_1 (List.mem_of_getElem? (i := 163) (by decide +kernel))
theorem tb_1_164 : (Jvm.Cond.fieldLink "CheriCore$BaseUnit" (102 : Nat) "CheriCore$Instruction" "rs2" "I") ∈ TB := tbm_1 (List.mem_of_getElem? (i := 164) (by decide +kernel))
theorem tb_1_165 : (Jvm.Cond.fieldLink "CheriCore$Instruction" (33 : Nat) "CheriCore$Instruction" "number" "I") ∈ TB := tbm_1 (List.mem_of_getElem? (i := 165) (by decide +kernel))
theorem tb_1_166 : (Jvm.Cond.fieldLink "CheriCore$CapabilityUnit" (64 : Nat) "CheriCore$Instruction" "number" "I") ∈ TB := tbm_1 (List.mem_of_getElem? (i := 166) (by decide +kernel))
theorem tb_1_167 : (Jvm.Cond.fieldLink "CheriCore$BaseUnit" (95 : Nat) "CheriCore$Instruction" "number" "I") ∈ TB := tbm_1 (List.mem_of_getElem? (i := 167) (by decide +kernel))
theorem tb_1_168 : (Jvm.Cond.fieldLink "CheriCore$CapabilityUnit" (49 : Nat) "CheriCore$Instruction" "immediate" "I") ∈ TB := tbm_1 (List.mem_of_getElem? (i := 168) (by decide +kernel))
theorem tb_1_169 : (Jvm.Cond.fieldLink "CheriCore$Instruction" (40 : Nat) "CheriCore$Instruction" "immediate" "I") ∈ TB := tbm_1 (List.mem_of_getElem? (i := 169) (by decide +kernel))
theorem tb_1_17 : (Jvm.Cond.initialized "java/lang/System") ∈ TB := tbm_1 (List.mem_of_getElem? (i := 17) (by decide +kernel))
theorem tb_1_170 : (Jvm.Cond.fieldLink "CheriCore$BaseUnit" (55 : Nat) "CheriCore$Instruction" "immediate" "I") ∈ TB := tbm_1 (List.mem_of_getElem? (i := 170) (by decide +kernel))
theorem tb_1_171 : (Jvm.Cond.lays "CheriCore$Instruction" "CheriCore$Instruction" "index" "I") ∈ TB := tbm_1 (List.mem_of_getElem? (i := 171) (by decide +kernel))
theorem tb_1_173 : (Jvm.Cond.lays "CheriCore$Instruction" "CheriCore$Instruction" "bits" "I") ∈ TB := tbm_1 (List.mem_of_getElem? (i := 173) (by decide +kernel))
theorem tb_1_175 : (Jvm.Cond.lays "CheriCore$Instruction" "CheriCore$Instruction" "opcode" "I") ∈ TB := tbm_1 (List.mem_of_getElem? (i := 175) (by decide +kernel))
theorem tb_1_177 : (Jvm.Cond.lays "CheriCore$Instruction" "CheriCore$Instruction" "rd" "I") ∈ TB := tbm_1 (List.mem_of_getElem? (i := 177) (by decide +kernel))
theorem tb_1_179 : (Jvm.Cond.lays "CheriCore$Instruction" "CheriCore$Instruction" "function" "I") ∈ TB := tbm_1 (List.mem_of_getElem? (i := 179) (by decide +kernel))
theorem tb_1_18 : (Jvm.Cond.initialized "java/lang/IllegalArgumentException") ∈ TB := tbm_1 (List.mem_of_getElem? (i := 18) (by decide +kernel))
theorem tb_1_181 : (Jvm.Cond.lays "CheriCore$Instruction" "CheriCore$Instruction" "rs1" "I") ∈ TB := tbm_1 (List.mem_of_getElem? (i := 181) (by decide +kernel))
theorem tb_1_183 : (Jvm.Cond.lays "CheriCore$Instruction" "CheriCore$Instruction" "rs2" "I") ∈ TB := tbm_1 (List.mem_of_getElem? (i := 183) (by decide +kernel))
theorem tb_1_185 : (Jvm.Cond.lays "CheriCore$Instruction" "CheriCore$Instruction" "number" "I") ∈ TB := tbm_1 (List.mem_of_getElem? (i := 185) (by decide +kernel))
theorem tb_1_187 : (Jvm.Cond.lays "CheriCore$Instruction" "CheriCore$Instruction" "immediate" "I") ∈ TB := tbm_1 (List.mem_of_getElem? (i := 187) (by decide +kernel))
theorem tb_1_19 : (Jvm.Cond.initialized "java/lang/IllegalStateException") ∈ TB := tbm_1 (List.mem_of_getElem? (i := 19) (by decide +kernel))
theorem tb_1_190 : (Jvm.Cond.fieldLink "CheriCore$Pipeline" (25 : Nat) "CheriCore$Pipeline" "memory" "LCheriCore$Memory;") ∈ TB := tbm_1 (List.mem_of_getElem? (i := 190) (by decide +kernel))
theorem tb_1_191 : (Jvm.Cond.fieldLink "CheriCore$Pipeline" (12 : Nat) "CheriCore$Pipeline" "executing" "LCheriCore$Instruction;") ∈ TB := tbm_1 (List.mem_of_getElem? (i := 191) (by decide +kernel))
theorem tb_1_192 : (Jvm.Cond.fieldLink "CheriCore$Pipeline" (18 : Nat) "CheriCore$Pipeline" "decoded" "LCheriCore$Instruction;") ∈ TB := tbm_1 (List.mem_of_getElem? (i := 192) (by decide +kernel))
theorem tb_1_193 : (Jvm.Cond.fieldLink "CheriCore$Pipeline" (21 : Nat) "CheriCore$Pipeline" "fetchedIndex" "I") ∈ TB := tbm_1 (List.mem_of_getElem? (i := 193) (by decide +kernel))
theorem tb_1_194 : (Jvm.Cond.fieldLink "CheriCore$Pipeline" (46 : Nat) "CheriCore$Pipeline" "fetchedBits" "I") ∈ TB := tbm_1 (List.mem_of_getElem? (i := 194) (by decide +kernel))
theorem tb_1_195 : (Jvm.Cond.laysFinal "CheriCore$Pipeline" "CheriCore$Pipeline" "memory" "LCheriCore$Memory;") ∈ TB := tbm_1 (List.mem_of_getElem? (i := 195) (by decide +kernel))
theorem tb_1_197 : (Jvm.Cond.lays "CheriCore$Pipeline" "CheriCore$Pipeline" "executing" "LCheriCore$Instruction;") ∈ TB := tbm_1 (List.mem_of_getElem? (i := 197) (by decide +kernel))
theorem tb_1_199 : (Jvm.Cond.lays "CheriCore$Pipeline" "CheriCore$Pipeline" "decoded" "LCheriCore$Instruction;") ∈ TB := tbm_1 (List.mem_of_getElem? (i := 199) (by decide +kernel))
theorem tb_1_2 : (Jvm.Cond.initialized "CheriCore$State") ∈ TB := tbm_1 (List.mem_of_getElem? (i := 2) (by decide +kernel))
theorem tb_1_20 : (Jvm.Cond.initialized "java/lang/Math") ∈ TB := tbm_1 (List.mem_of_getElem? (i := 20) (by decide +kernel))
theorem tb_1_201 : (Jvm.Cond.lays "CheriCore$Pipeline" "CheriCore$Pipeline" "fetchedIndex" "I") ∈ TB := tbm_1 (List.mem_of_getElem? (i := 201) (by decide +kernel))
theorem tb_1_203 : (Jvm.Cond.lays "CheriCore$Pipeline" "CheriCore$Pipeline" "fetchedBits" "I") ∈ TB := tbm_1 (List.mem_of_getElem? (i := 203) (by decide +kernel))
theorem tb_1_206 : (Jvm.Cond.fieldLink "CheriCore$State" (11 : Nat) "CheriCore$State" "registers" "[LCheriCore$Capability;") ∈ TB := tbm_1 (List.mem_of_getElem? (i := 206) (by decide +kernel))
theorem tb_1_207 : (Jvm.Cond.fieldLink "CheriCore$CapabilityUnit" (22 : Nat) "CheriCore$State" "registers" "[LCheriCore$Capability;") ∈ TB := tbm_1 (List.mem_of_getElem? (i := 207) (by decide +kernel))
theorem tb_1_208 : (Jvm.Cond.fieldLink "CheriCore" (111 : Nat) "CheriCore$State" "registers" "[LCheriCore$Capability;") ∈ TB := tbm_1 (List.mem_of_getElem? (i := 208) (by decide +kernel))
theorem tb_1_209 : (Jvm.Cond.fieldLink "CheriCore$BaseUnit" (98 : Nat) "CheriCore$State" "registers" "[LCheriCore$Capability;") ∈ TB := tbm_1 (List.mem_of_getElem? (i := 209) (by decide +kernel))
theorem tb_1_21 : (Jvm.Cond.initialized "java/lang/Integer") ∈ TB := tbm_1 (List.mem_of_getElem? (i := 21) (by decide +kernel))
theorem tb_1_210 : (Jvm.Cond.fieldLink "CheriCore$State" (38 : Nat) "CheriCore$State" "pcc" "LCheriCore$Capability;") ∈ TB := tbm_1 (List.mem_of_getElem? (i := 210) (by decide +kernel))
theorem tb_1_211 : (Jvm.Cond.fieldLink "CheriCore$BaseUnit" (77 : Nat) "CheriCore$State" "pcc" "LCheriCore$Capability;") ∈ TB := tbm_1 (List.mem_of_getElem? (i := 211) (by decide +kernel))
theorem tb_1_212 : (Jvm.Cond.fieldLink "CheriCore$CapabilityUnit" (129 : Nat) "CheriCore$State" "pcc" "LCheriCore$Capability;") ∈ TB := tbm_1 (List.mem_of_getElem? (i := 212) (by decide +kernel))
theorem tb_1_213 : (Jvm.Cond.fieldLink "CheriCore" (210 : Nat) "CheriCore$State" "pcc" "LCheriCore$Capability;") ∈ TB := tbm_1 (List.mem_of_getElem? (i := 213) (by decide +kernel))
theorem tb_1_214 : (Jvm.Cond.fieldLink "CheriCore$State" (18 : Nat) "CheriCore$State" "result" "LCheriCore$Capability;") ∈ TB := tbm_1 (List.mem_of_getElem? (i := 214) (by decide +kernel))
theorem tb_1_215 : (Jvm.Cond.fieldLink "CheriCore$BaseUnit" (74 : Nat) "CheriCore$State" "result" "LCheriCore$Capability;") ∈ TB := tbm_1 (List.mem_of_getElem? (i := 215) (by decide +kernel))
theorem tb_1_216 : (Jvm.Cond.fieldLink "CheriCore$CapabilityUnit" (113 : Nat) "CheriCore$State" "result" "LCheriCore$Capability;") ∈ TB := tbm_1 (List.mem_of_getElem? (i := 216) (by decide +kernel))
theorem tb_1_217 : (Jvm.Cond.fieldLink "CheriCore$State" (25 : Nat) "CheriCore$State" "memory" "LCheriCore$Memory;") ∈ TB := tbm_1 (List.mem_of_getElem? (i := 217) (by decide +kernel))
theorem tb_1_218 : (Jvm.Cond.fieldLink "CheriCore" (61 : Nat) "CheriCore$State" "memory" "LCheriCore$Memory;") ∈ TB := tbm_1 (List.mem_of_getElem? (i := 218) (by decide +kernel))
theorem tb_1_219 : (Jvm.Cond.fieldLink "CheriCore$BaseUnit" (173 : Nat) "CheriCore$State" "memory" "LCheriCore$Memory;") ∈ TB := tbm_1 (List.mem_of_getElem? (i := 219) (by decide +kernel))
theorem tb_1_22 : (Jvm.Cond.classLink "CheriCoreLaw" (8 : Nat) "CheriCore") ∈ TB := tbm_1 (List.mem_of_getElem? (i := 22) (by decide +kernel))
theorem tb_1_220 : (Jvm.Cond.fieldLink "CheriCore$State" (34 : Nat) "CheriCore$State" "pipeline" "LCheriCore$Pipeline;") ∈ TB := tbm_1 (List.mem_of_getElem? (i := 220) (by decide +kernel))
theorem tb_1_221 : (Jvm.Cond.fieldLink "CheriCore" (75 : Nat) "CheriCore$State" "pipeline" "LCheriCore$Pipeline;") ∈ TB := tbm_1 (List.mem_of_getElem? (i := 221) (by decide +kernel))
theorem tb_1_222 : (Jvm.Cond.fieldLink "CheriCore$BaseUnit" (212 : Nat) "CheriCore$State" "pipeline" "LCheriCore$Pipeline;") ∈ TB := tbm_1 (List.mem_of_getElem? (i := 222) (by decide +kernel))
theorem tb_1_223 : (Jvm.Cond.fieldLink "CheriCore" (169 : Nat) "CheriCore$State" "cause" "I") ∈ TB := tbm_1 (List.mem_of_getElem? (i := 223) (by decide +kernel))
theorem tb_1_224 : (Jvm.Cond.fieldLink "CheriCore$BaseUnit" (233 : Nat) "CheriCore$State" "cause" "I") ∈ TB := tbm_1 (List.mem_of_getElem? (i := 224) (by decide +kernel))
theorem tb_1_225 : (Jvm.Cond.fieldLink "CheriCore" (172 : Nat) "CheriCore$State" "value" "I") ∈ TB := tbm_1 (List.mem_of_getElem? (i := 225) (by decide +kernel))
theorem tb_1_226 : (Jvm.Cond.fieldLink "CheriCore$BaseUnit" (236 : Nat) "CheriCore$State" "value" "I") ∈ TB := tbm_1 (List.mem_of_getElem? (i := 226) (by decide +kernel))
theorem tb_1_227 : (Jvm.Cond.fieldLink "CheriCore$State" (41 : Nat) "CheriCore$State" "faultValue" "I") ∈ TB := tbm_1 (List.mem_of_getElem? (i := 227) (by decide +kernel))
theorem tb_1_228 : (Jvm.Cond.fieldLink "CheriCore" (233 : Nat) "CheriCore$State" "faultValue" "I") ∈ TB := tbm_1 (List.mem_of_getElem? (i := 228) (by decide +kernel))
theorem tb_1_229 : (Jvm.Cond.laysFinal "CheriCore$State" "CheriCore$State" "registers" "[LCheriCore$Capability;") ∈ TB := tbm_1 (List.mem_of_getElem? (i := 229) (by decide +kernel))
theorem tb_1_23 : (Jvm.Cond.instantiable "CheriCore" (10 : Nat)) ∈ TB := tbm_1 (List.mem_of_getElem? (i := 23) (by decide +kernel))
theorem tb_1_231 : (Jvm.Cond.laysFinal "CheriCore$State" "CheriCore$State" "pcc" "LCheriCore$Capability;") ∈ TB := tbm_1 (List.mem_of_getElem? (i := 231) (by decide +kernel))
theorem tb_1_233 : (Jvm.Cond.laysFinal "CheriCore$State" "CheriCore$State" "result" "LCheriCore$Capability;") ∈ TB := tbm_1 (List.mem_of_getElem? (i := 233) (by decide +kernel))
theorem tb_1_235 : (Jvm.Cond.laysFinal "CheriCore$State" "CheriCore$State" "memory" "LCheriCore$Memory;") ∈ TB := tbm_1 (List.mem_of_getElem? (i := 235) (by decide +kernel))
theorem tb_1_237 : (Jvm.Cond.laysFinal "CheriCore$State" "CheriCore$State" "pipeline" "LCheriCore$Pipeline;") ∈ TB := tbm_1 (List.mem_of_getElem? (i := 237) (by decide +kernel))
theorem tb_1_239 : (Jvm.Cond.lays "CheriCore$State" "CheriCore$State" "cause" "I") ∈ TB := tbm_1 (List.mem_of_getElem? (i := 239) (by decide +kernel))
theorem tb_1_24 : (Jvm.Cond.methodLink "CheriCoreLaw" (48 : Nat) ({ cls := "CheriCore", name := "<init>", desc := "()V" } : Jvm.MethodName)) ∈ TB := tbm_1 (List.mem_of_getElem? (i := 24) (by decide +kernel))
theorem tb_1_25 : (Jvm.Cond.instanceMethod ({ cls := "CheriCore", name := "<init>", desc := "()V" } : Jvm.MethodName)) ∈ TB := tbm_1 (List.mem_of_getElem? (i := 25) (by decide +kernel))
theorem tb_1_26 : (Jvm.Cond.code ({ cls := "CheriCore", name := "<init>", desc := "()V" } : Jvm.MethodName) prog_1_method_1_code (2 : Nat) (Option.none : Option Jvm.ClassFile.FieldType)) ∈ TB := tbm_1 (List.mem_of_getElem? (i := 26) (rfl))
theorem tb_1_27 : (Jvm.Cond.methodLink "CheriCore" (3 : Nat) ({ cls := "java/lang/Object", name := "<init>", desc := "()V" } : Jvm.MethodName)) ∈ TB := tbm_1 (List.mem_of_getElem? (i := 27) (by decide +kernel))
theorem tb_1_3 : (Jvm.Cond.initialized "CheriCore$Capability") ∈ TB := tbm_1 (List.mem_of_getElem? (i := 3) (by decide +kernel))
theorem tb_1_30 : (Jvm.Cond.classLink "CheriCore" (9 : Nat) "CheriCore$State") ∈ TB := tbm_1 (List.mem_of_getElem? (i := 30) (by decide +kernel))
theorem tb_1_31 : (Jvm.Cond.instantiable "CheriCore$State" (8 : Nat)) ∈ TB := tbm_1 (List.mem_of_getElem? (i := 31) (by decide +kernel))
theorem tb_1_32 : (Jvm.Cond.methodLink "CheriCore" (11 : Nat) ({ cls := "CheriCore$State", name := "<init>", desc := "()V" } : Jvm.MethodName)) ∈ TB := tbm_1 (List.mem_of_getElem? (i := 32) (by decide +kernel))
theorem tb_1_33 : (Jvm.Cond.instanceMethod ({ cls := "CheriCore$State", name := "<init>", desc := "()V" } : Jvm.MethodName)) ∈ TB := tbm_1 (List.mem_of_getElem? (i := 33) (by decide +kernel))
theorem tb_1_34 : (Jvm.Cond.code ({ cls := "CheriCore$State", name := "<init>", desc := "()V" } : Jvm.MethodName) prog_10_method_1_code (2 : Nat) (Option.none : Option Jvm.ClassFile.FieldType)) ∈ TB := tbm_1 (List.mem_of_getElem? (i := 34) (rfl))
theorem tb_1_35 : (Jvm.Cond.methodLink "CheriCore$State" (3 : Nat) ({ cls := "java/lang/Object", name := "<init>", desc := "()V" } : Jvm.MethodName)) ∈ TB := tbm_1 (List.mem_of_getElem? (i := 35) (by decide +kernel))
theorem tb_1_36 : (Jvm.Cond.classLink "CheriCore$State" (9 : Nat) "CheriCore$Capability") ∈ TB := tbm_1 (List.mem_of_getElem? (i := 36) (by decide +kernel))
theorem tb_1_38 : (Jvm.Cond.instantiable "CheriCore$Capability" (5 : Nat)) ∈ TB := tbm_1 (List.mem_of_getElem? (i := 38) (by decide +kernel))
theorem tb_1_4 : (Jvm.Cond.initialized "CheriCore$Memory") ∈ TB := tbm_1 (List.mem_of_getElem? (i := 4) (by decide +kernel))
theorem tb_1_40 : (Jvm.Cond.instanceMethod ({ cls := "CheriCore$Capability", name := "<init>", desc := "()V" } : Jvm.MethodName)) ∈ TB := tbm_1 (List.mem_of_getElem? (i := 40) (by decide +kernel))
theorem tb_1_41 : (Jvm.Cond.code ({ cls := "CheriCore$Capability", name := "<init>", desc := "()V" } : Jvm.MethodName) prog_3_method_1_code (1 : Nat) (Option.none : Option Jvm.ClassFile.FieldType)) ∈ TB := tbm_1 (List.mem_of_getElem? (i := 41) (rfl))
theorem tb_1_42 : (Jvm.Cond.methodLink "CheriCore$Capability" (3 : Nat) ({ cls := "java/lang/Object", name := "<init>", desc := "()V" } : Jvm.MethodName)) ∈ TB := tbm_1 (List.mem_of_getElem? (i := 42) (by decide +kernel))
theorem tb_1_43 : (Jvm.Cond.constant "CheriCore$Capability" (9 : Nat) (1000194 : Int32)) ∈ TB := tbm_1 (List.mem_of_getElem? (i := 43) (by decide +kernel))
theorem tb_1_44 : (Jvm.Cond.constantLong "CheriCore$Capability" (16 : Nat) (4294967296 : Int64)) ∈ TB := tbm_1 (List.mem_of_getElem? (i := 44) (by decide +kernel))
theorem tb_1_45 : (Jvm.Cond.fieldLink "CheriCore$Capability" (22 : Nat) "CheriCore$Capability" "tagged" "Z") ∈ TB := tbm_1 (List.mem_of_getElem? (i := 45) (by decide +kernel))
theorem tb_1_46 : (Jvm.Cond.fieldLink "CheriCore$CapabilityUnit" (99 : Nat) "CheriCore$Capability" "tagged" "Z") ∈ TB := tbm_1 (List.mem_of_getElem? (i := 46) (by decide +kernel))
theorem tb_1_47 : (Jvm.Cond.fieldLink "CheriCore$State" (65 : Nat) "CheriCore$Capability" "tagged" "Z") ∈ TB := tbm_1 (List.mem_of_getElem? (i := 47) (by decide +kernel))
theorem tb_1_48 : (Jvm.Cond.fieldLink "CheriCore" (142 : Nat) "CheriCore$Capability" "tagged" "Z") ∈ TB := tbm_1 (List.mem_of_getElem? (i := 48) (by decide +kernel))
theorem tb_1_49 : (Jvm.Cond.fieldLink "CheriCore$BaseUnit" (146 : Nat) "CheriCore$Capability" "tagged" "Z") ∈ TB := tbm_1 (List.mem_of_getElem? (i := 49) (by decide +kernel))
theorem tb_1_5 : (Jvm.Cond.initialized "CheriCore$TagStore") ∈ TB := tbm_1 (List.mem_of_getElem? (i := 5) (by decide +kernel))
theorem tb_1_50 : (Jvm.Cond.fieldLink "CheriCore$Capability" (26 : Nat) "CheriCore$Capability" "address" "I") ∈ TB := tbm_1 (List.mem_of_getElem? (i := 50) (by decide +kernel))
theorem tb_1_51 : (Jvm.Cond.fieldLink "CheriCore$CapabilityUnit" (44 : Nat) "CheriCore$Capability" "address" "I") ∈ TB := tbm_1 (List.mem_of_getElem? (i := 51) (by decide +kernel))
theorem tb_1_52 : (Jvm.Cond.fieldLink "CheriCore$BaseUnit" (84 : Nat) "CheriCore$Capability" "address" "I") ∈ TB := tbm_1 (List.mem_of_getElem? (i := 52) (by decide +kernel))
theorem tb_1_53 : (Jvm.Cond.fieldLink "CheriCore$State" (58 : Nat) "CheriCore$Capability" "address" "I") ∈ TB := tbm_1 (List.mem_of_getElem? (i := 53) (by decide +kernel))
theorem tb_1_54 : (Jvm.Cond.fieldLink "CheriCore" (145 : Nat) "CheriCore$Capability" "address" "I") ∈ TB := tbm_1 (List.mem_of_getElem? (i := 54) (by decide +kernel))
theorem tb_1_55 : (Jvm.Cond.fieldLink "CheriCore$Capability" (10 : Nat) "CheriCore$Capability" "meta" "I") ∈ TB := tbm_1 (List.mem_of_getElem? (i := 55) (by decide +kernel))
theorem tb_1_56 : (Jvm.Cond.fieldLink "CheriCore$Capability" (29 : Nat) "CheriCore$Capability" "base" "J") ∈ TB := tbm_1 (List.mem_of_getElem? (i := 56) (by decide +kernel))
theorem tb_1_57 : (Jvm.Cond.fieldLink "CheriCore" (126 : Nat) "CheriCore$Capability" "base" "J") ∈ TB := tbm_1 (List.mem_of_getElem? (i := 57) (by decide +kernel))
theorem tb_1_58 : (Jvm.Cond.fieldLink "CheriCore$CapabilityUnit" (82 : Nat) "CheriCore$Capability" "base" "J") ∈ TB := tbm_1 (List.mem_of_getElem? (i := 58) (by decide +kernel))
theorem tb_1_59 : (Jvm.Cond.fieldLink "CheriCore$Capability" (18 : Nat) "CheriCore$Capability" "top" "J") ∈ TB := tbm_1 (List.mem_of_getElem? (i := 59) (by decide +kernel))
theorem tb_1_6 : (Jvm.Cond.initialized "CheriCore$Directory") ∈ TB := tbm_1 (List.mem_of_getElem? (i := 6) (by decide +kernel))
theorem tb_1_60 : (Jvm.Cond.fieldLink "CheriCore" (192 : Nat) "CheriCore$Capability" "top" "J") ∈ TB := tbm_1 (List.mem_of_getElem? (i := 60) (by decide +kernel))
theorem tb_1_61 : (Jvm.Cond.fieldLink "CheriCore$CapabilityUnit" (190 : Nat) "CheriCore$Capability" "top" "J") ∈ TB := tbm_1 (List.mem_of_getElem? (i := 61) (by decide +kernel))
theorem tb_1_62 : (Jvm.Cond.lays "CheriCore$Capability" "CheriCore$Capability" "tagged" "Z") ∈ TB := tbm_1 (List.mem_of_getElem? (i := 62) (by decide +kernel))
theorem tb_1_64 : (Jvm.Cond.lays "CheriCore$Capability" "CheriCore$Capability" "address" "I") ∈ TB := tbm_1 (List.mem_of_getElem? (i := 64) (by decide +kernel))
theorem tb_1_66 : (Jvm.Cond.lays "CheriCore$Capability" "CheriCore$Capability" "meta" "I") ∈ TB := tbm_1 (List.mem_of_getElem? (i := 66) (by decide +kernel))
theorem tb_1_68 : (Jvm.Cond.lays "CheriCore$Capability" "CheriCore$Capability" "base" "J") ∈ TB := tbm_1 (List.mem_of_getElem? (i := 68) (by decide +kernel))
theorem tb_1_7 : (Jvm.Cond.initialized "CheriCore$Pipeline") ∈ TB := tbm_1 (List.mem_of_getElem? (i := 7) (by decide +kernel))
theorem tb_1_70 : (Jvm.Cond.lays "CheriCore$Capability" "CheriCore$Capability" "top" "J") ∈ TB := tbm_1 (List.mem_of_getElem? (i := 70) (by decide +kernel))
theorem tb_1_73 : (Jvm.Cond.classLink "CheriCore$State" (22 : Nat) "CheriCore$Memory") ∈ TB := tbm_1 (List.mem_of_getElem? (i := 73) (by decide +kernel))
theorem tb_1_74 : (Jvm.Cond.instantiable "CheriCore$Memory" (6 : Nat)) ∈ TB := tbm_1 (List.mem_of_getElem? (i := 74) (by decide +kernel))
theorem tb_1_76 : (Jvm.Cond.instanceMethod ({ cls := "CheriCore$Memory", name := "<init>", desc := "()V" } : Jvm.MethodName)) ∈ TB := tbm_1 (List.mem_of_getElem? (i := 76) (by decide +kernel))
theorem tb_1_77 : (Jvm.Cond.code ({ cls := "CheriCore$Memory", name := "<init>", desc := "()V" } : Jvm.MethodName) prog_7_method_1_code (1 : Nat) (Option.none : Option Jvm.ClassFile.FieldType)) ∈ TB := tbm_1 (List.mem_of_getElem? (i := 77) (rfl))
theorem tb_1_78 : (Jvm.Cond.methodLink "CheriCore$Memory" (3 : Nat) ({ cls := "java/lang/Object", name := "<init>", desc := "()V" } : Jvm.MethodName)) ∈ TB := tbm_1 (List.mem_of_getElem? (i := 78) (by decide +kernel))
theorem tb_1_79 : (Jvm.Cond.classLink "CheriCore$Memory" (15 : Nat) "CheriCore$TagStore") ∈ TB := tbm_1 (List.mem_of_getElem? (i := 79) (by decide +kernel))
theorem tb_1_8 : (Jvm.Cond.initialized "CheriCore$Instruction") ∈ TB := tbm_1 (List.mem_of_getElem? (i := 8) (by decide +kernel))
theorem tb_1_80 : (Jvm.Cond.instantiable "CheriCore$TagStore" (4 : Nat)) ∈ TB := tbm_1 (List.mem_of_getElem? (i := 80) (by decide +kernel))
theorem tb_1_81 : (Jvm.Cond.methodLink "CheriCore$Memory" (17 : Nat) ({ cls := "CheriCore$TagStore", name := "<init>", desc := "()V" } : Jvm.MethodName)) ∈ TB := tbm_1 (List.mem_of_getElem? (i := 81) (by decide +kernel))
theorem tb_1_82 : (Jvm.Cond.instanceMethod ({ cls := "CheriCore$TagStore", name := "<init>", desc := "()V" } : Jvm.MethodName)) ∈ TB := tbm_1 (List.mem_of_getElem? (i := 82) (by decide +kernel))
theorem tb_1_83 : (Jvm.Cond.code ({ cls := "CheriCore$TagStore", name := "<init>", desc := "()V" } : Jvm.MethodName) prog_11_method_1_code (2 : Nat) (Option.none : Option Jvm.ClassFile.FieldType)) ∈ TB := tbm_1 (List.mem_of_getElem? (i := 83) (rfl))
theorem tb_1_84 : (Jvm.Cond.methodLink "CheriCore$TagStore" (3 : Nat) ({ cls := "java/lang/Object", name := "<init>", desc := "()V" } : Jvm.MethodName)) ∈ TB := tbm_1 (List.mem_of_getElem? (i := 84) (by decide +kernel))
theorem tb_1_85 : (Jvm.Cond.fieldLink "CheriCore$TagStore" (11 : Nat) "CheriCore$TagStore" "rows" "[I") ∈ TB := tbm_1 (List.mem_of_getElem? (i := 85) (by decide +kernel))
theorem tb_1_86 : (Jvm.Cond.fieldLink "CheriCore$TagStore" (15 : Nat) "CheriCore$TagStore" "held" "[I") ∈ TB := tbm_1 (List.mem_of_getElem? (i := 86) (by decide +kernel))
theorem tb_1_87 : (Jvm.Cond.fieldLink "CheriCore$TagStore" (18 : Nat) "CheriCore$TagStore" "cached" "[I") ∈ TB := tbm_1 (List.mem_of_getElem? (i := 87) (by decide +kernel))
theorem tb_1_88 : (Jvm.Cond.fieldLink "CheriCore$TagStore" (21 : Nat) "CheriCore$TagStore" "written" "[Z") ∈ TB := tbm_1 (List.mem_of_getElem? (i := 88) (by decide +kernel))
theorem tb_1_89 : (Jvm.Cond.laysFinal "CheriCore$TagStore" "CheriCore$TagStore" "rows" "[I") ∈ TB := tbm_1 (List.mem_of_getElem? (i := 89) (by decide +kernel))
theorem tb_1_9 : (Jvm.Cond.initialized "CheriCore$BaseUnit") ∈ TB := tbm_1 (List.mem_of_getElem? (i := 9) (by decide +kernel))
theorem tb_1_91 : (Jvm.Cond.laysFinal "CheriCore$TagStore" "CheriCore$TagStore" "held" "[I") ∈ TB := tbm_1 (List.mem_of_getElem? (i := 91) (by decide +kernel))
theorem tb_1_93 : (Jvm.Cond.laysFinal "CheriCore$TagStore" "CheriCore$TagStore" "cached" "[I") ∈ TB := tbm_1 (List.mem_of_getElem? (i := 93) (by decide +kernel))
theorem tb_1_95 : (Jvm.Cond.laysFinal "CheriCore$TagStore" "CheriCore$TagStore" "written" "[Z") ∈ TB := tbm_1 (List.mem_of_getElem? (i := 95) (by decide +kernel))
theorem tb_1_98 : (Jvm.Cond.arrayClass Jvm.ClassFile.FieldType.int) ∈ TB := tbm_1 (List.mem_of_getElem? (i := 98) (by decide +kernel))
theorem tb_1_99 : (Jvm.Cond.arrayClass Jvm.ClassFile.FieldType.boolean) ∈ TB := tbm_1 (List.mem_of_getElem? (i := 99) (by decide +kernel))
theorem tb_2_1 : (Jvm.Cond.lays "CheriCore$State" "CheriCore$State" "value" "I") ∈ TB := tbm_2 (List.mem_of_getElem? (i := 1) (by decide +kernel))
theorem tb_2_10 : (Jvm.Cond.code ({ cls := "CheriCore$BaseUnit", name := "<init>", desc := "(LCheriCore$State;)V" } : Jvm.MethodName) prog_2_method_1_code (2 : Nat) (Option.none : Option Jvm.ClassFile.FieldType)) ∈ TB := tbm_2 (List.mem_of_getElem? (i := 10) (rfl))
theorem tb_2_100 : (Jvm.Cond.selects "CheriCore" ({ cls := "CheriCore", name := "bound", desc := "(IIZ)J" } : Jvm.MethodName) ({ cls := "CheriCore", name := "bound", desc := "(IIZ)J" } : Jvm.MethodName)) ∈ TB := tbm_2 (List.mem_of_getElem? (i := 100) (by decide +kernel))
theorem tb_2_101 : (Jvm.Cond.code ({ cls := "CheriCore", name := "bound", desc := "(IIZ)J" } : Jvm.MethodName) prog_1_method_11_code (4 : Nat) (Option.some Jvm.ClassFile.FieldType.long)) ∈ TB := tbm_2 (List.mem_of_getElem? (i := 101) (rfl))
theorem tb_2_102 : (Jvm.Cond.methodLink "CheriCore" (118 : Nat) ({ cls := "CheriCore$Capability", name := "define", desc := "(ZII)V" } : Jvm.MethodName)) ∈ TB := tbm_2 (List.mem_of_getElem? (i := 102) (by decide +kernel))
theorem tb_2_103 : (Jvm.Cond.instanceMethod ({ cls := "CheriCore$Capability", name := "define", desc := "(ZII)V" } : Jvm.MethodName)) ∈ TB := tbm_2 (List.mem_of_getElem? (i := 103) (by decide +kernel))
theorem tb_2_104 : (Jvm.Cond.selects "CheriCore$Capability" ({ cls := "CheriCore$Capability", name := "define", desc := "(ZII)V" } : Jvm.MethodName) ({ cls := "CheriCore$Capability", name := "define", desc := "(ZII)V" } : Jvm.MethodName)) ∈ TB := tbm_2 (List.mem_of_getElem? (i := 104) (by decide +kernel))
theorem tb_2_105 : (Jvm.Cond.code ({ cls := "CheriCore$Capability", name := "define", desc := "(ZII)V" } : Jvm.MethodName) prog_3_method_4_code (4 : Nat) (Option.none : Option Jvm.ClassFile.FieldType)) ∈ TB := tbm_2 (List.mem_of_getElem? (i := 105) (rfl))
theorem tb_2_106 : (Jvm.Cond.methodLink "CheriCore$Capability" (32 : Nat) ({ cls := "CheriCore$Capability", name := "settle", desc := "()V" } : Jvm.MethodName)) ∈ TB := tbm_2 (List.mem_of_getElem? (i := 106) (by decide +kernel))
theorem tb_2_108 : (Jvm.Cond.instanceMethod ({ cls := "CheriCore$Capability", name := "settle", desc := "()V" } : Jvm.MethodName)) ∈ TB := tbm_2 (List.mem_of_getElem? (i := 108) (by decide +kernel))
theorem tb_2_109 : (Jvm.Cond.code ({ cls := "CheriCore$Capability", name := "settle", desc := "()V" } : Jvm.MethodName) prog_3_method_17_code (12 : Nat) (Option.none : Option Jvm.ClassFile.FieldType)) ∈ TB := tbm_2 (List.mem_of_getElem? (i := 109) (rfl))
theorem tb_2_11 : (Jvm.Cond.methodLink "CheriCore$BaseUnit" (3 : Nat) ({ cls := "java/lang/Object", name := "<init>", desc := "()V" } : Jvm.MethodName)) ∈ TB := tbm_2 (List.mem_of_getElem? (i := 11) (by decide +kernel))
theorem tb_2_110 : (Jvm.Cond.methodLink "CheriCore$Capability" (56 : Nat) ({ cls := "java/lang/Math", name := "min", desc := "(II)I" } : Jvm.MethodName)) ∈ TB := tbm_2 (List.mem_of_getElem? (i := 110) (by decide +kernel))
theorem tb_2_111 : (Jvm.Cond.static ({ cls := "java/lang/Math", name := "min", desc := "(II)I" } : Jvm.MethodName)) ∈ TB := tbm_2 (List.mem_of_getElem? (i := 111) (by decide +kernel))
theorem tb_2_112 : (Jvm.Cond.code ({ cls := "java/lang/Math", name := "min", desc := "(II)I" } : Jvm.MethodName) prog_19_method_69_code (2 : Nat) (Option.some Jvm.ClassFile.FieldType.int)) ∈ TB := tbm_2 (List.mem_of_getElem? (i := 112) (rfl))
theorem tb_2_113 : (Jvm.Cond.constantLong "CheriCore$Capability" (48 : Nat) (4294967295 : Int64)) ∈ TB := tbm_2 (List.mem_of_getElem? (i := 113) (by decide +kernel))
theorem tb_2_114 : (Jvm.Cond.methodLink "CheriCore$Capability" (59 : Nat) ({ cls := "CheriCore$Capability", name := "below", desc := "(II)I" } : Jvm.MethodName)) ∈ TB := tbm_2 (List.mem_of_getElem? (i := 114) (by decide +kernel))
theorem tb_2_115 : (Jvm.Cond.static ({ cls := "CheriCore$Capability", name := "below", desc := "(II)I" } : Jvm.MethodName)) ∈ TB := tbm_2 (List.mem_of_getElem? (i := 115) (by decide +kernel))
theorem tb_2_116 : (Jvm.Cond.code ({ cls := "CheriCore$Capability", name := "below", desc := "(II)I" } : Jvm.MethodName) prog_3_method_18_code (2 : Nat) (Option.some Jvm.ClassFile.FieldType.int)) ∈ TB := tbm_2 (List.mem_of_getElem? (i := 116) (rfl))
theorem tb_2_117 : (Jvm.Cond.constantLong "CheriCore$Capability" (62 : Nat) (8589934591 : Int64)) ∈ TB := tbm_2 (List.mem_of_getElem? (i := 117) (by decide +kernel))
theorem tb_2_118 : (Jvm.Cond.constantLong "CheriCore$Capability" (64 : Nat) (3 : Int64)) ∈ TB := tbm_2 (List.mem_of_getElem? (i := 118) (by decide +kernel))
theorem tb_2_119 : (Jvm.Cond.methodLink "CheriCoreLaw" (97 : Nat) ({ cls := "CheriCore", name := "grown", desc := "()I" } : Jvm.MethodName)) ∈ TB := tbm_2 (List.mem_of_getElem? (i := 119) (by decide +kernel))
theorem tb_2_12 : (Jvm.Cond.classLink "CheriCore$BaseUnit" (9 : Nat) "CheriCore$Capability") ∈ TB := tbm_2 (List.mem_of_getElem? (i := 12) (by decide +kernel))
theorem tb_2_120 : (Jvm.Cond.instanceMethod ({ cls := "CheriCore", name := "grown", desc := "()I" } : Jvm.MethodName)) ∈ TB := tbm_2 (List.mem_of_getElem? (i := 120) (by decide +kernel))
theorem tb_2_121 : (Jvm.Cond.selects "CheriCore" ({ cls := "CheriCore", name := "grown", desc := "()I" } : Jvm.MethodName) ({ cls := "CheriCore", name := "grown", desc := "()I" } : Jvm.MethodName)) ∈ TB := tbm_2 (List.mem_of_getElem? (i := 121) (by decide +kernel))
theorem tb_2_122 : (Jvm.Cond.code ({ cls := "CheriCore", name := "grown", desc := "()I" } : Jvm.MethodName) prog_1_method_12_code (3 : Nat) (Option.some Jvm.ClassFile.FieldType.int)) ∈ TB := tbm_2 (List.mem_of_getElem? (i := 122) (rfl))
theorem tb_2_123 : (Jvm.Cond.methodLink "CheriCore" (195 : Nat) ({ cls := "CheriCore", name := "isOutsideRoots", desc := "(LCheriCore$Capability;)Z" } : Jvm.MethodName)) ∈ TB := tbm_2 (List.mem_of_getElem? (i := 123) (by decide +kernel))
theorem tb_2_125 : (Jvm.Cond.instanceMethod ({ cls := "CheriCore", name := "isOutsideRoots", desc := "(LCheriCore$Capability;)Z" } : Jvm.MethodName)) ∈ TB := tbm_2 (List.mem_of_getElem? (i := 125) (by decide +kernel))
theorem tb_2_126 : (Jvm.Cond.code ({ cls := "CheriCore", name := "isOutsideRoots", desc := "(LCheriCore$Capability;)Z" } : Jvm.MethodName) prog_1_method_16_code (3 : Nat) (Option.some Jvm.ClassFile.FieldType.boolean)) ∈ TB := tbm_2 (List.mem_of_getElem? (i := 126) (rfl))
theorem tb_2_127 : (Jvm.Cond.methodLink "CheriCore" (204 : Nat) ({ cls := "CheriCore$Capability", name := "isWithin", desc := "(LCheriCore$Capability;)Z" } : Jvm.MethodName)) ∈ TB := tbm_2 (List.mem_of_getElem? (i := 127) (by decide +kernel))
theorem tb_2_128 : (Jvm.Cond.instanceMethod ({ cls := "CheriCore$Capability", name := "isWithin", desc := "(LCheriCore$Capability;)Z" } : Jvm.MethodName)) ∈ TB := tbm_2 (List.mem_of_getElem? (i := 128) (by decide +kernel))
theorem tb_2_129 : (Jvm.Cond.selects "CheriCore$Capability" ({ cls := "CheriCore$Capability", name := "isWithin", desc := "(LCheriCore$Capability;)Z" } : Jvm.MethodName) ({ cls := "CheriCore$Capability", name := "isWithin", desc := "(LCheriCore$Capability;)Z" } : Jvm.MethodName)) ∈ TB := tbm_2 (List.mem_of_getElem? (i := 129) (by decide +kernel))
theorem tb_2_130 : (Jvm.Cond.code ({ cls := "CheriCore$Capability", name := "isWithin", desc := "(LCheriCore$Capability;)Z" } : Jvm.MethodName) prog_3_method_16_code (2 : Nat) (Option.some Jvm.ClassFile.FieldType.boolean)) ∈ TB := tbm_2 (List.mem_of_getElem? (i := 130) (rfl))
theorem tb_2_131 : (Jvm.Cond.methodLink "CheriCore$Capability" (41 : Nat) ({ cls := "CheriCore$Capability", name := "perms", desc := "()I" } : Jvm.MethodName)) ∈ TB := tbm_2 (List.mem_of_getElem? (i := 131) (by decide +kernel))
theorem tb_2_132 : (Jvm.Cond.instanceMethod ({ cls := "CheriCore$Capability", name := "perms", desc := "()I" } : Jvm.MethodName)) ∈ TB := tbm_2 (List.mem_of_getElem? (i := 132) (by decide +kernel))
theorem tb_2_133 : (Jvm.Cond.selects "CheriCore$Capability" ({ cls := "CheriCore$Capability", name := "perms", desc := "()I" } : Jvm.MethodName) ({ cls := "CheriCore$Capability", name := "perms", desc := "()I" } : Jvm.MethodName)) ∈ TB := tbm_2 (List.mem_of_getElem? (i := 133) (by decide +kernel))
theorem tb_2_134 : (Jvm.Cond.code ({ cls := "CheriCore$Capability", name := "perms", desc := "()I" } : Jvm.MethodName) prog_3_method_9_code (1 : Nat) (Option.some Jvm.ClassFile.FieldType.int)) ∈ TB := tbm_2 (List.mem_of_getElem? (i := 134) (rfl))
theorem tb_2_135 : (Jvm.Cond.methodLink "CheriCore" (166 : Nat) ({ cls := "CheriCore$Memory", name := "seenTag", desc := "(I)Z" } : Jvm.MethodName)) ∈ TB := tbm_2 (List.mem_of_getElem? (i := 135) (by decide +kernel))
theorem tb_2_136 : (Jvm.Cond.instanceMethod ({ cls := "CheriCore$Memory", name := "seenTag", desc := "(I)Z" } : Jvm.MethodName)) ∈ TB := tbm_2 (List.mem_of_getElem? (i := 136) (by decide +kernel))
theorem tb_2_137 : (Jvm.Cond.selects "CheriCore$Memory" ({ cls := "CheriCore$Memory", name := "seenTag", desc := "(I)Z" } : Jvm.MethodName) ({ cls := "CheriCore$Memory", name := "seenTag", desc := "(I)Z" } : Jvm.MethodName)) ∈ TB := tbm_2 (List.mem_of_getElem? (i := 137) (by decide +kernel))
theorem tb_2_138 : (Jvm.Cond.code ({ cls := "CheriCore$Memory", name := "seenTag", desc := "(I)Z" } : Jvm.MethodName) prog_7_method_7_code (2 : Nat) (Option.some Jvm.ClassFile.FieldType.boolean)) ∈ TB := tbm_2 (List.mem_of_getElem? (i := 138) (rfl))
theorem tb_2_139 : (Jvm.Cond.methodLink "CheriCore$Memory" (49 : Nat) ({ cls := "CheriCore$Memory", name := "seenTags", desc := "(I)I" } : Jvm.MethodName)) ∈ TB := tbm_2 (List.mem_of_getElem? (i := 139) (by decide +kernel))
theorem tb_2_14 : (Jvm.Cond.fieldLink "CheriCore$BaseUnit" (18 : Nat) "CheriCore$BaseUnit" "state" "LCheriCore$State;") ∈ TB := tbm_2 (List.mem_of_getElem? (i := 14) (by decide +kernel))
theorem tb_2_141 : (Jvm.Cond.instanceMethod ({ cls := "CheriCore$Memory", name := "seenTags", desc := "(I)I" } : Jvm.MethodName)) ∈ TB := tbm_2 (List.mem_of_getElem? (i := 141) (by decide +kernel))
theorem tb_2_142 : (Jvm.Cond.code ({ cls := "CheriCore$Memory", name := "seenTags", desc := "(I)I" } : Jvm.MethodName) prog_7_method_12_code (3 : Nat) (Option.some Jvm.ClassFile.FieldType.int)) ∈ TB := tbm_2 (List.mem_of_getElem? (i := 142) (rfl))
theorem tb_2_143 : (Jvm.Cond.methodLink "CheriCore$Memory" (46 : Nat) ({ cls := "CheriCore$Directory", name := "find", desc := "(I)I" } : Jvm.MethodName)) ∈ TB := tbm_2 (List.mem_of_getElem? (i := 143) (by decide +kernel))
theorem tb_2_144 : (Jvm.Cond.instanceMethod ({ cls := "CheriCore$Directory", name := "find", desc := "(I)I" } : Jvm.MethodName)) ∈ TB := tbm_2 (List.mem_of_getElem? (i := 144) (by decide +kernel))
theorem tb_2_145 : (Jvm.Cond.selects "CheriCore$Directory" ({ cls := "CheriCore$Directory", name := "find", desc := "(I)I" } : Jvm.MethodName) ({ cls := "CheriCore$Directory", name := "find", desc := "(I)I" } : Jvm.MethodName)) ∈ TB := tbm_2 (List.mem_of_getElem? (i := 145) (by decide +kernel))
theorem tb_2_146 : (Jvm.Cond.code ({ cls := "CheriCore$Directory", name := "find", desc := "(I)I" } : Jvm.MethodName) prog_5_method_2_code (4 : Nat) (Option.some Jvm.ClassFile.FieldType.int)) ∈ TB := tbm_2 (List.mem_of_getElem? (i := 146) (rfl))
theorem tb_2_147 : (Jvm.Cond.methodLink "CheriCore$Memory" (71 : Nat) ({ cls := "CheriCore$TagStore", name := "seenOfLine", desc := "(I)I" } : Jvm.MethodName)) ∈ TB := tbm_2 (List.mem_of_getElem? (i := 147) (by decide +kernel))
theorem tb_2_148 : (Jvm.Cond.instanceMethod ({ cls := "CheriCore$TagStore", name := "seenOfLine", desc := "(I)I" } : Jvm.MethodName)) ∈ TB := tbm_2 (List.mem_of_getElem? (i := 148) (by decide +kernel))
theorem tb_2_149 : (Jvm.Cond.selects "CheriCore$TagStore" ({ cls := "CheriCore$TagStore", name := "seenOfLine", desc := "(I)I" } : Jvm.MethodName) ({ cls := "CheriCore$TagStore", name := "seenOfLine", desc := "(I)I" } : Jvm.MethodName)) ∈ TB := tbm_2 (List.mem_of_getElem? (i := 149) (by decide +kernel))
theorem tb_2_15 : (Jvm.Cond.fieldLink "CheriCore$BaseUnit" (12 : Nat) "CheriCore$BaseUnit" "target" "LCheriCore$Capability;") ∈ TB := tbm_2 (List.mem_of_getElem? (i := 15) (by decide +kernel))
theorem tb_2_150 : (Jvm.Cond.code ({ cls := "CheriCore$TagStore", name := "seenOfLine", desc := "(I)I" } : Jvm.MethodName) prog_11_method_5_code (6 : Nat) (Option.some Jvm.ClassFile.FieldType.int)) ∈ TB := tbm_2 (List.mem_of_getElem? (i := 150) (rfl))
theorem tb_2_151 : (Jvm.Cond.methodLink "CheriCore$Memory" (43 : Nat) ({ cls := "CheriCore$Memory", name := "tagBit", desc := "(I)I" } : Jvm.MethodName)) ∈ TB := tbm_2 (List.mem_of_getElem? (i := 151) (by decide +kernel))
theorem tb_2_152 : (Jvm.Cond.static ({ cls := "CheriCore$Memory", name := "tagBit", desc := "(I)I" } : Jvm.MethodName)) ∈ TB := tbm_2 (List.mem_of_getElem? (i := 152) (by decide +kernel))
theorem tb_2_153 : (Jvm.Cond.code ({ cls := "CheriCore$Memory", name := "tagBit", desc := "(I)I" } : Jvm.MethodName) prog_7_method_11_code (1 : Nat) (Option.some Jvm.ClassFile.FieldType.int)) ∈ TB := tbm_2 (List.mem_of_getElem? (i := 153) (rfl))
theorem tb_2_154 : (Jvm.Cond.methodLink "CheriCore" (163 : Nat) ({ cls := "CheriCore$Memory", name := "seenWord", desc := "(I)I" } : Jvm.MethodName)) ∈ TB := tbm_2 (List.mem_of_getElem? (i := 154) (by decide +kernel))
theorem tb_2_155 : (Jvm.Cond.instanceMethod ({ cls := "CheriCore$Memory", name := "seenWord", desc := "(I)I" } : Jvm.MethodName)) ∈ TB := tbm_2 (List.mem_of_getElem? (i := 155) (by decide +kernel))
theorem tb_2_156 : (Jvm.Cond.selects "CheriCore$Memory" ({ cls := "CheriCore$Memory", name := "seenWord", desc := "(I)I" } : Jvm.MethodName) ({ cls := "CheriCore$Memory", name := "seenWord", desc := "(I)I" } : Jvm.MethodName)) ∈ TB := tbm_2 (List.mem_of_getElem? (i := 156) (by decide +kernel))
theorem tb_2_157 : (Jvm.Cond.code ({ cls := "CheriCore$Memory", name := "seenWord", desc := "(I)I" } : Jvm.MethodName) prog_7_method_6_code (3 : Nat) (Option.some Jvm.ClassFile.FieldType.int)) ∈ TB := tbm_2 (List.mem_of_getElem? (i := 157) (rfl))
theorem tb_2_158 : (Jvm.Cond.constant "CheriCore" (130 : Nat) (1000194 : Int32)) ∈ TB := tbm_2 (List.mem_of_getElem? (i := 158) (by decide +kernel))
theorem tb_2_159 : (Jvm.Cond.methodLink "CheriCoreLaw" (101 : Nat) ({ cls := "CheriCore", name := "check", desc := "()I" } : Jvm.MethodName)) ∈ TB := tbm_2 (List.mem_of_getElem? (i := 159) (by decide +kernel))
theorem tb_2_16 : (Jvm.Cond.laysFinal "CheriCore$BaseUnit" "CheriCore$BaseUnit" "state" "LCheriCore$State;") ∈ TB := tbm_2 (List.mem_of_getElem? (i := 16) (by decide +kernel))
theorem tb_2_160 : (Jvm.Cond.instanceMethod ({ cls := "CheriCore", name := "check", desc := "()I" } : Jvm.MethodName)) ∈ TB := tbm_2 (List.mem_of_getElem? (i := 160) (by decide +kernel))
theorem tb_2_161 : (Jvm.Cond.selects "CheriCore" ({ cls := "CheriCore", name := "check", desc := "()I" } : Jvm.MethodName) ({ cls := "CheriCore", name := "check", desc := "()I" } : Jvm.MethodName)) ∈ TB := tbm_2 (List.mem_of_getElem? (i := 161) (by decide +kernel))
theorem tb_2_162 : (Jvm.Cond.code ({ cls := "CheriCore", name := "check", desc := "()I" } : Jvm.MethodName) prog_1_method_13_code (1 : Nat) (Option.some Jvm.ClassFile.FieldType.int)) ∈ TB := tbm_2 (List.mem_of_getElem? (i := 162) (rfl))
theorem tb_2_163 : (Jvm.Cond.methodLink "CheriCore" (199 : Nat) ({ cls := "CheriCore$Memory", name := "wrongs", desc := "()I" } : Jvm.MethodName)) ∈ TB := tbm_2 (List.mem_of_getElem? (i := 163) (by decide +kernel))
theorem tb_2_164 : (Jvm.Cond.instanceMethod ({ cls := "CheriCore$Memory", name := "wrongs", desc := "()I" } : Jvm.MethodName)) ∈ TB := tbm_2 (List.mem_of_getElem? (i := 164) (by decide +kernel))
theorem tb_2_165 : (Jvm.Cond.selects "CheriCore$Memory" ({ cls := "CheriCore$Memory", name := "wrongs", desc := "()I" } : Jvm.MethodName) ({ cls := "CheriCore$Memory", name := "wrongs", desc := "()I" } : Jvm.MethodName)) ∈ TB := tbm_2 (List.mem_of_getElem? (i := 165) (by decide +kernel))
theorem tb_2_166 : (Jvm.Cond.code ({ cls := "CheriCore$Memory", name := "wrongs", desc := "()I" } : Jvm.MethodName) prog_7_method_9_code (4 : Nat) (Option.some Jvm.ClassFile.FieldType.int)) ∈ TB := tbm_2 (List.mem_of_getElem? (i := 166) (rfl))
theorem tb_2_167 : (Jvm.Cond.methodLink "CheriCore$Memory" (57 : Nat) ({ cls := "CheriCore$Directory", name := "doubles", desc := "()I" } : Jvm.MethodName)) ∈ TB := tbm_2 (List.mem_of_getElem? (i := 167) (by decide +kernel))
theorem tb_2_168 : (Jvm.Cond.instanceMethod ({ cls := "CheriCore$Directory", name := "doubles", desc := "()I" } : Jvm.MethodName)) ∈ TB := tbm_2 (List.mem_of_getElem? (i := 168) (by decide +kernel))
theorem tb_2_169 : (Jvm.Cond.selects "CheriCore$Directory" ({ cls := "CheriCore$Directory", name := "doubles", desc := "()I" } : Jvm.MethodName) ({ cls := "CheriCore$Directory", name := "doubles", desc := "()I" } : Jvm.MethodName)) ∈ TB := tbm_2 (List.mem_of_getElem? (i := 169) (by decide +kernel))
theorem tb_2_170 : (Jvm.Cond.code ({ cls := "CheriCore$Directory", name := "doubles", desc := "()I" } : Jvm.MethodName) prog_5_method_5_code (4 : Nat) (Option.some Jvm.ClassFile.FieldType.int)) ∈ TB := tbm_2 (List.mem_of_getElem? (i := 170) (rfl))
theorem tb_2_171 : (Jvm.Cond.methodLink "CheriCore$Memory" (61 : Nat) ({ cls := "CheriCore$TagStore", name := "wrongs", desc := "()I" } : Jvm.MethodName)) ∈ TB := tbm_2 (List.mem_of_getElem? (i := 171) (by decide +kernel))
theorem tb_2_172 : (Jvm.Cond.instanceMethod ({ cls := "CheriCore$TagStore", name := "wrongs", desc := "()I" } : Jvm.MethodName)) ∈ TB := tbm_2 (List.mem_of_getElem? (i := 172) (by decide +kernel))
theorem tb_2_173 : (Jvm.Cond.selects "CheriCore$TagStore" ({ cls := "CheriCore$TagStore", name := "wrongs", desc := "()I" } : Jvm.MethodName) ({ cls := "CheriCore$TagStore", name := "wrongs", desc := "()I" } : Jvm.MethodName)) ∈ TB := tbm_2 (List.mem_of_getElem? (i := 173) (by decide +kernel))
theorem tb_2_174 : (Jvm.Cond.code ({ cls := "CheriCore$TagStore", name := "wrongs", desc := "()I" } : Jvm.MethodName) prog_11_method_6_code (3 : Nat) (Option.some Jvm.ClassFile.FieldType.int)) ∈ TB := tbm_2 (List.mem_of_getElem? (i := 174) (rfl))
theorem tb_2_175 : (Jvm.Cond.methodLink "CheriCore$TagStore" (25 : Nat) ({ cls := "java/lang/Integer", name := "bitCount", desc := "(I)I" } : Jvm.MethodName)) ∈ TB := tbm_2 (List.mem_of_getElem? (i := 175) (by decide +kernel))
theorem tb_2_176 : (Jvm.Cond.static ({ cls := "java/lang/Integer", name := "bitCount", desc := "(I)I" } : Jvm.MethodName)) ∈ TB := tbm_2 (List.mem_of_getElem? (i := 176) (by decide +kernel))
theorem tb_2_177 : (Jvm.Cond.code ({ cls := "java/lang/Integer", name := "bitCount", desc := "(I)I" } : Jvm.MethodName) prog_18_method_49_code (1 : Nat) (Option.some Jvm.ClassFile.FieldType.int)) ∈ TB := tbm_2 (List.mem_of_getElem? (i := 177) (rfl))
theorem tb_2_178 : (Jvm.Cond.constant "java/lang/Integer" (265 : Nat) (1431655765 : Int32)) ∈ TB := tbm_2 (List.mem_of_getElem? (i := 178) (by decide +kernel))
theorem tb_2_179 : (Jvm.Cond.constant "java/lang/Integer" (266 : Nat) (858993459 : Int32)) ∈ TB := tbm_2 (List.mem_of_getElem? (i := 179) (by decide +kernel))
theorem tb_2_18 : (Jvm.Cond.laysFinal "CheriCore$BaseUnit" "CheriCore$BaseUnit" "target" "LCheriCore$Capability;") ∈ TB := tbm_2 (List.mem_of_getElem? (i := 18) (by decide +kernel))
theorem tb_2_180 : (Jvm.Cond.constant "java/lang/Integer" (267 : Nat) (252645135 : Int32)) ∈ TB := tbm_2 (List.mem_of_getElem? (i := 180) (by decide +kernel))
theorem tb_2_181 : (Jvm.Cond.methodLink "CheriCore$Memory" (52 : Nat) ({ cls := "java/lang/Integer", name := "bitCount", desc := "(I)I" } : Jvm.MethodName)) ∈ TB := tbm_2 (List.mem_of_getElem? (i := 181) (by decide +kernel))
theorem tb_2_182 : (Jvm.Cond.methodLink "CheriCore$Memory" (67 : Nat) ({ cls := "CheriCore$Memory", name := "wordsUnlikeMemory", desc := "(II)I" } : Jvm.MethodName)) ∈ TB := tbm_2 (List.mem_of_getElem? (i := 182) (by decide +kernel))
theorem tb_2_184 : (Jvm.Cond.instanceMethod ({ cls := "CheriCore$Memory", name := "wordsUnlikeMemory", desc := "(II)I" } : Jvm.MethodName)) ∈ TB := tbm_2 (List.mem_of_getElem? (i := 184) (by decide +kernel))
theorem tb_2_185 : (Jvm.Cond.code ({ cls := "CheriCore$Memory", name := "wordsUnlikeMemory", desc := "(II)I" } : Jvm.MethodName) prog_7_method_10_code (5 : Nat) (Option.some Jvm.ClassFile.FieldType.int)) ∈ TB := tbm_2 (List.mem_of_getElem? (i := 185) (rfl))
theorem tb_2_186 : (Jvm.Cond.methodLink "CheriCoreLaw" (52 : Nat) ({ cls := "CheriCoreLaw", name := "word", desc := "(LCheriCore;II[J)I" } : Jvm.MethodName)) ∈ TB := tbm_2 (List.mem_of_getElem? (i := 186) (by decide +kernel))
theorem tb_2_187 : (Jvm.Cond.static ({ cls := "CheriCoreLaw", name := "word", desc := "(LCheriCore;II[J)I" } : Jvm.MethodName)) ∈ TB := tbm_2 (List.mem_of_getElem? (i := 187) (by decide +kernel))
theorem tb_2_189 : (Jvm.Cond.classLink "CheriCoreLaw" (13 : Nat) "java/lang/IndexOutOfBoundsException") ∈ TB := tbm_2 (List.mem_of_getElem? (i := 189) (by decide +kernel))
theorem tb_2_190 : (Jvm.Cond.methodLink "CheriCoreLaw" (7 : Nat) ({ cls := "CheriCore", name := "word", desc := "(II)I" } : Jvm.MethodName)) ∈ TB := tbm_2 (List.mem_of_getElem? (i := 190) (by decide +kernel))
theorem tb_2_191 : (Jvm.Cond.instanceMethod ({ cls := "CheriCore", name := "word", desc := "(II)I" } : Jvm.MethodName)) ∈ TB := tbm_2 (List.mem_of_getElem? (i := 191) (by decide +kernel))
theorem tb_2_192 : (Jvm.Cond.selects "CheriCore" ({ cls := "CheriCore", name := "word", desc := "(II)I" } : Jvm.MethodName) ({ cls := "CheriCore", name := "word", desc := "(II)I" } : Jvm.MethodName)) ∈ TB := tbm_2 (List.mem_of_getElem? (i := 192) (by decide +kernel))
theorem tb_2_193 : (Jvm.Cond.code ({ cls := "CheriCore", name := "word", desc := "(II)I" } : Jvm.MethodName) prog_1_method_2_code (4 : Nat) (Option.some Jvm.ClassFile.FieldType.int)) ∈ TB := tbm_2 (List.mem_of_getElem? (i := 193) (rfl))
theorem tb_2_194 : (Jvm.Cond.methodLink "CheriCore" (50 : Nat) ({ cls := "CheriCore", name := "isWord", desc := "(I)Z" } : Jvm.MethodName)) ∈ TB := tbm_2 (List.mem_of_getElem? (i := 194) (by decide +kernel))
theorem tb_2_195 : (Jvm.Cond.static ({ cls := "CheriCore", name := "isWord", desc := "(I)Z" } : Jvm.MethodName)) ∈ TB := tbm_2 (List.mem_of_getElem? (i := 195) (by decide +kernel))
theorem tb_2_196 : (Jvm.Cond.code ({ cls := "CheriCore", name := "isWord", desc := "(I)Z" } : Jvm.MethodName) prog_1_method_14_code (1 : Nat) (Option.some Jvm.ClassFile.FieldType.boolean)) ∈ TB := tbm_2 (List.mem_of_getElem? (i := 196) (rfl))
theorem tb_2_197 : (Jvm.Cond.classLink "CheriCore" (54 : Nat) "java/lang/IndexOutOfBoundsException") ∈ TB := tbm_2 (List.mem_of_getElem? (i := 197) (by decide +kernel))
theorem tb_2_198 : (Jvm.Cond.instantiable "java/lang/IndexOutOfBoundsException" (6 : Nat)) ∈ TB := tbm_2 (List.mem_of_getElem? (i := 198) (by decide +kernel))
theorem tb_2_21 : (Jvm.Cond.classLink "CheriCore" (25 : Nat) "CheriCore$CapabilityUnit") ∈ TB := tbm_2 (List.mem_of_getElem? (i := 21) (by decide +kernel))
theorem tb_2_22 : (Jvm.Cond.instantiable "CheriCore$CapabilityUnit" (2 : Nat)) ∈ TB := tbm_2 (List.mem_of_getElem? (i := 22) (by decide +kernel))
theorem tb_2_23 : (Jvm.Cond.methodLink "CheriCore" (27 : Nat) ({ cls := "CheriCore$CapabilityUnit", name := "<init>", desc := "(LCheriCore$State;)V" } : Jvm.MethodName)) ∈ TB := tbm_2 (List.mem_of_getElem? (i := 23) (by decide +kernel))
theorem tb_2_239 : (Jvm.Cond.methodLink "CheriCore" (58 : Nat) ({ cls := "java/lang/IndexOutOfBoundsException", name := "<init>", desc := "(Ljava/lang/String;)V" } : Jvm.MethodName)) ∈ TB := tbm_2 (List.mem_of_getElem? (i := 239) (by decide +kernel))
theorem tb_2_24 : (Jvm.Cond.instanceMethod ({ cls := "CheriCore$CapabilityUnit", name := "<init>", desc := "(LCheriCore$State;)V" } : Jvm.MethodName)) ∈ TB := tbm_2 (List.mem_of_getElem? (i := 24) (by decide +kernel))
theorem tb_2_25 : (Jvm.Cond.code ({ cls := "CheriCore$CapabilityUnit", name := "<init>", desc := "(LCheriCore$State;)V" } : Jvm.MethodName) prog_4_method_1_code (2 : Nat) (Option.none : Option Jvm.ClassFile.FieldType)) ∈ TB := tbm_2 (List.mem_of_getElem? (i := 25) (rfl))
theorem tb_2_26 : (Jvm.Cond.methodLink "CheriCore$CapabilityUnit" (3 : Nat) ({ cls := "java/lang/Object", name := "<init>", desc := "()V" } : Jvm.MethodName)) ∈ TB := tbm_2 (List.mem_of_getElem? (i := 26) (by decide +kernel))
theorem tb_2_27 : (Jvm.Cond.classLink "CheriCore$CapabilityUnit" (9 : Nat) "CheriCore$Packer") ∈ TB := tbm_2 (List.mem_of_getElem? (i := 27) (by decide +kernel))
theorem tb_2_28 : (Jvm.Cond.instantiable "CheriCore$Packer" (5 : Nat)) ∈ TB := tbm_2 (List.mem_of_getElem? (i := 28) (by decide +kernel))
theorem tb_2_3 : (Jvm.Cond.lays "CheriCore$State" "CheriCore$State" "faultValue" "I") ∈ TB := tbm_2 (List.mem_of_getElem? (i := 3) (by decide +kernel))
theorem tb_2_30 : (Jvm.Cond.instanceMethod ({ cls := "CheriCore$Packer", name := "<init>", desc := "()V" } : Jvm.MethodName)) ∈ TB := tbm_2 (List.mem_of_getElem? (i := 30) (by decide +kernel))
theorem tb_2_31 : (Jvm.Cond.code ({ cls := "CheriCore$Packer", name := "<init>", desc := "()V" } : Jvm.MethodName) prog_8_method_1_code (1 : Nat) (Option.none : Option Jvm.ClassFile.FieldType)) ∈ TB := tbm_2 (List.mem_of_getElem? (i := 31) (rfl))
theorem tb_2_32 : (Jvm.Cond.methodLink "CheriCore$Packer" (3 : Nat) ({ cls := "java/lang/Object", name := "<init>", desc := "()V" } : Jvm.MethodName)) ∈ TB := tbm_2 (List.mem_of_getElem? (i := 32) (by decide +kernel))
theorem tb_2_33 : (Jvm.Cond.fieldLink "CheriCore$Packer" (41 : Nat) "CheriCore$Packer" "bits" "I") ∈ TB := tbm_2 (List.mem_of_getElem? (i := 33) (by decide +kernel))
theorem tb_2_34 : (Jvm.Cond.fieldLink "CheriCore" (115 : Nat) "CheriCore$Packer" "bits" "I") ∈ TB := tbm_2 (List.mem_of_getElem? (i := 34) (by decide +kernel))
theorem tb_2_35 : (Jvm.Cond.fieldLink "CheriCore$CapabilityUnit" (159 : Nat) "CheriCore$Packer" "bits" "I") ∈ TB := tbm_2 (List.mem_of_getElem? (i := 35) (by decide +kernel))
theorem tb_2_36 : (Jvm.Cond.fieldLink "CheriCore$Packer" (34 : Nat) "CheriCore$Packer" "exact" "Z") ∈ TB := tbm_2 (List.mem_of_getElem? (i := 36) (by decide +kernel))
theorem tb_2_37 : (Jvm.Cond.fieldLink "CheriCore$CapabilityUnit" (165 : Nat) "CheriCore$Packer" "exact" "Z") ∈ TB := tbm_2 (List.mem_of_getElem? (i := 37) (by decide +kernel))
theorem tb_2_38 : (Jvm.Cond.fieldLink "CheriCore" (188 : Nat) "CheriCore$Packer" "exact" "Z") ∈ TB := tbm_2 (List.mem_of_getElem? (i := 38) (by decide +kernel))
theorem tb_2_39 : (Jvm.Cond.fieldLink "CheriCore$Packer" (21 : Nat) "CheriCore$Packer" "inner" "Z") ∈ TB := tbm_2 (List.mem_of_getElem? (i := 39) (by decide +kernel))
theorem tb_2_40 : (Jvm.Cond.fieldLink "CheriCore$CapabilityUnit" (218 : Nat) "CheriCore$Packer" "inner" "Z") ∈ TB := tbm_2 (List.mem_of_getElem? (i := 40) (by decide +kernel))
theorem tb_2_41 : (Jvm.Cond.fieldLink "CheriCore$Packer" (15 : Nat) "CheriCore$Packer" "exponent" "I") ∈ TB := tbm_2 (List.mem_of_getElem? (i := 41) (by decide +kernel))
theorem tb_2_42 : (Jvm.Cond.fieldLink "CheriCore$CapabilityUnit" (221 : Nat) "CheriCore$Packer" "exponent" "I") ∈ TB := tbm_2 (List.mem_of_getElem? (i := 42) (by decide +kernel))
theorem tb_2_43 : (Jvm.Cond.fieldLink "CheriCore$Packer" (37 : Nat) "CheriCore$Packer" "length" "J") ∈ TB := tbm_2 (List.mem_of_getElem? (i := 43) (by decide +kernel))
theorem tb_2_44 : (Jvm.Cond.fieldLink "CheriCore$CapabilityUnit" (224 : Nat) "CheriCore$Packer" "length" "J") ∈ TB := tbm_2 (List.mem_of_getElem? (i := 44) (by decide +kernel))
theorem tb_2_45 : (Jvm.Cond.lays "CheriCore$Packer" "CheriCore$Packer" "bits" "I") ∈ TB := tbm_2 (List.mem_of_getElem? (i := 45) (by decide +kernel))
theorem tb_2_47 : (Jvm.Cond.lays "CheriCore$Packer" "CheriCore$Packer" "exact" "Z") ∈ TB := tbm_2 (List.mem_of_getElem? (i := 47) (by decide +kernel))
theorem tb_2_49 : (Jvm.Cond.lays "CheriCore$Packer" "CheriCore$Packer" "inner" "Z") ∈ TB := tbm_2 (List.mem_of_getElem? (i := 49) (by decide +kernel))
theorem tb_2_51 : (Jvm.Cond.lays "CheriCore$Packer" "CheriCore$Packer" "exponent" "I") ∈ TB := tbm_2 (List.mem_of_getElem? (i := 51) (by decide +kernel))
theorem tb_2_53 : (Jvm.Cond.lays "CheriCore$Packer" "CheriCore$Packer" "length" "J") ∈ TB := tbm_2 (List.mem_of_getElem? (i := 53) (by decide +kernel))
theorem tb_2_56 : (Jvm.Cond.fieldLink "CheriCore$CapabilityUnit" (18 : Nat) "CheriCore$CapabilityUnit" "state" "LCheriCore$State;") ∈ TB := tbm_2 (List.mem_of_getElem? (i := 56) (by decide +kernel))
theorem tb_2_57 : (Jvm.Cond.fieldLink "CheriCore$CapabilityUnit" (12 : Nat) "CheriCore$CapabilityUnit" "packer" "LCheriCore$Packer;") ∈ TB := tbm_2 (List.mem_of_getElem? (i := 57) (by decide +kernel))
theorem tb_2_58 : (Jvm.Cond.laysFinal "CheriCore$CapabilityUnit" "CheriCore$CapabilityUnit" "state" "LCheriCore$State;") ∈ TB := tbm_2 (List.mem_of_getElem? (i := 58) (by decide +kernel))
theorem tb_2_6 : (Jvm.Cond.classLink "CheriCore" (16 : Nat) "CheriCore$BaseUnit") ∈ TB := tbm_2 (List.mem_of_getElem? (i := 6) (by decide +kernel))
theorem tb_2_60 : (Jvm.Cond.laysFinal "CheriCore$CapabilityUnit" "CheriCore$CapabilityUnit" "packer" "LCheriCore$Packer;") ∈ TB := tbm_2 (List.mem_of_getElem? (i := 60) (by decide +kernel))
theorem tb_2_63 : (Jvm.Cond.classLink "CheriCore" (32 : Nat) "CheriCore$Packer") ∈ TB := tbm_2 (List.mem_of_getElem? (i := 63) (by decide +kernel))
theorem tb_2_65 : (Jvm.Cond.classLink "CheriCore" (39 : Nat) "CheriCore$Capability") ∈ TB := tbm_2 (List.mem_of_getElem? (i := 65) (by decide +kernel))
theorem tb_2_67 : (Jvm.Cond.fieldLink "CheriCore" (12 : Nat) "CheriCore" "state" "LCheriCore$State;") ∈ TB := tbm_2 (List.mem_of_getElem? (i := 67) (by decide +kernel))
theorem tb_2_68 : (Jvm.Cond.fieldLink "CheriCore" (21 : Nat) "CheriCore" "baseUnit" "LCheriCore$BaseUnit;") ∈ TB := tbm_2 (List.mem_of_getElem? (i := 68) (by decide +kernel))
theorem tb_2_69 : (Jvm.Cond.fieldLink "CheriCore" (28 : Nat) "CheriCore" "capabilityUnit" "LCheriCore$CapabilityUnit;") ∈ TB := tbm_2 (List.mem_of_getElem? (i := 69) (by decide +kernel))
theorem tb_2_7 : (Jvm.Cond.instantiable "CheriCore$BaseUnit" (2 : Nat)) ∈ TB := tbm_2 (List.mem_of_getElem? (i := 7) (by decide +kernel))
theorem tb_2_70 : (Jvm.Cond.fieldLink "CheriCore" (35 : Nat) "CheriCore" "packer" "LCheriCore$Packer;") ∈ TB := tbm_2 (List.mem_of_getElem? (i := 70) (by decide +kernel))
theorem tb_2_71 : (Jvm.Cond.fieldLink "CheriCore" (42 : Nat) "CheriCore" "scratch" "LCheriCore$Capability;") ∈ TB := tbm_2 (List.mem_of_getElem? (i := 71) (by decide +kernel))
theorem tb_2_72 : (Jvm.Cond.fieldLink "CheriCore" (46 : Nat) "CheriCore" "roots" "[LCheriCore$Capability;") ∈ TB := tbm_2 (List.mem_of_getElem? (i := 72) (by decide +kernel))
theorem tb_2_73 : (Jvm.Cond.fieldLink "CheriCore" (96 : Nat) "CheriCore" "rootCount" "I") ∈ TB := tbm_2 (List.mem_of_getElem? (i := 73) (by decide +kernel))
theorem tb_2_74 : (Jvm.Cond.fieldLink "CheriCore" (175 : Nat) "CheriCore" "steps" "I") ∈ TB := tbm_2 (List.mem_of_getElem? (i := 74) (by decide +kernel))
theorem tb_2_75 : (Jvm.Cond.fieldLink "CheriCore" (178 : Nat) "CheriCore" "traps" "I") ∈ TB := tbm_2 (List.mem_of_getElem? (i := 75) (by decide +kernel))
theorem tb_2_76 : (Jvm.Cond.fieldLink "CheriCore" (133 : Nat) "CheriCore" "halted" "Z") ∈ TB := tbm_2 (List.mem_of_getElem? (i := 76) (by decide +kernel))
theorem tb_2_77 : (Jvm.Cond.laysFinal "CheriCore" "CheriCore" "state" "LCheriCore$State;") ∈ TB := tbm_2 (List.mem_of_getElem? (i := 77) (by decide +kernel))
theorem tb_2_79 : (Jvm.Cond.laysFinal "CheriCore" "CheriCore" "baseUnit" "LCheriCore$BaseUnit;") ∈ TB := tbm_2 (List.mem_of_getElem? (i := 79) (by decide +kernel))
theorem tb_2_8 : (Jvm.Cond.methodLink "CheriCore" (18 : Nat) ({ cls := "CheriCore$BaseUnit", name := "<init>", desc := "(LCheriCore$State;)V" } : Jvm.MethodName)) ∈ TB := tbm_2 (List.mem_of_getElem? (i := 8) (by decide +kernel))
theorem tb_2_81 : (Jvm.Cond.laysFinal "CheriCore" "CheriCore" "capabilityUnit" "LCheriCore$CapabilityUnit;") ∈ TB := tbm_2 (List.mem_of_getElem? (i := 81) (by decide +kernel))
theorem tb_2_83 : (Jvm.Cond.laysFinal "CheriCore" "CheriCore" "packer" "LCheriCore$Packer;") ∈ TB := tbm_2 (List.mem_of_getElem? (i := 83) (by decide +kernel))
theorem tb_2_85 : (Jvm.Cond.laysFinal "CheriCore" "CheriCore" "scratch" "LCheriCore$Capability;") ∈ TB := tbm_2 (List.mem_of_getElem? (i := 85) (by decide +kernel))
theorem tb_2_87 : (Jvm.Cond.laysFinal "CheriCore" "CheriCore" "roots" "[LCheriCore$Capability;") ∈ TB := tbm_2 (List.mem_of_getElem? (i := 87) (by decide +kernel))
theorem tb_2_89 : (Jvm.Cond.lays "CheriCore" "CheriCore" "rootCount" "I") ∈ TB := tbm_2 (List.mem_of_getElem? (i := 89) (by decide +kernel))
theorem tb_2_9 : (Jvm.Cond.instanceMethod ({ cls := "CheriCore$BaseUnit", name := "<init>", desc := "(LCheriCore$State;)V" } : Jvm.MethodName)) ∈ TB := tbm_2 (List.mem_of_getElem? (i := 9) (by decide +kernel))
theorem tb_2_91 : (Jvm.Cond.lays "CheriCore" "CheriCore" "steps" "I") ∈ TB := tbm_2 (List.mem_of_getElem? (i := 91) (by decide +kernel))
theorem tb_2_93 : (Jvm.Cond.lays "CheriCore" "CheriCore" "traps" "I") ∈ TB := tbm_2 (List.mem_of_getElem? (i := 93) (by decide +kernel))
theorem tb_2_95 : (Jvm.Cond.lays "CheriCore" "CheriCore" "halted" "Z") ∈ TB := tbm_2 (List.mem_of_getElem? (i := 95) (by decide +kernel))
theorem tb_2_98 : (Jvm.Cond.methodLink "CheriCoreLaw" (92 : Nat) ({ cls := "CheriCore", name := "bound", desc := "(IIZ)J" } : Jvm.MethodName)) ∈ TB := tbm_2 (List.mem_of_getElem? (i := 98) (by decide +kernel))
theorem tb_2_99 : (Jvm.Cond.instanceMethod ({ cls := "CheriCore", name := "bound", desc := "(IIZ)J" } : Jvm.MethodName)) ∈ TB := tbm_2 (List.mem_of_getElem? (i := 99) (by decide +kernel))
theorem tb_3_105 : (Jvm.Cond.methodLink "CheriCore" (104 : Nat) ({ cls := "java/lang/IllegalStateException", name := "<init>", desc := "(Ljava/lang/String;)V" } : Jvm.MethodName)) ∈ TB := tbm_3 (List.mem_of_getElem? (i := 105) (by decide +kernel))
theorem tb_3_108 : (Jvm.Cond.methodLink "java/lang/IllegalStateException" (7 : Nat) ({ cls := "java/lang/RuntimeException", name := "<init>", desc := "(Ljava/lang/String;)V" } : Jvm.MethodName)) ∈ TB := tbm_3 (List.mem_of_getElem? (i := 108) (by decide +kernel))
theorem tb_3_111 : (Jvm.Cond.methodLink "CheriCore" (107 : Nat) ({ cls := "CheriCore$Packer", name := "fit", desc := "(JJ)V" } : Jvm.MethodName)) ∈ TB := tbm_3 (List.mem_of_getElem? (i := 111) (by decide +kernel))
theorem tb_3_112 : (Jvm.Cond.instanceMethod ({ cls := "CheriCore$Packer", name := "fit", desc := "(JJ)V" } : Jvm.MethodName)) ∈ TB := tbm_3 (List.mem_of_getElem? (i := 112) (by decide +kernel))
theorem tb_3_113 : (Jvm.Cond.selects "CheriCore$Packer" ({ cls := "CheriCore$Packer", name := "fit", desc := "(JJ)V" } : Jvm.MethodName) ({ cls := "CheriCore$Packer", name := "fit", desc := "(JJ)V" } : Jvm.MethodName)) ∈ TB := tbm_3 (List.mem_of_getElem? (i := 113) (by decide +kernel))
theorem tb_3_114 : (Jvm.Cond.code ({ cls := "CheriCore$Packer", name := "fit", desc := "(JJ)V" } : Jvm.MethodName) prog_8_method_2_code (11 : Nat) (Option.none : Option Jvm.ClassFile.FieldType)) ∈ TB := tbm_3 (List.mem_of_getElem? (i := 114) (rfl))
theorem tb_3_115 : (Jvm.Cond.methodLink "CheriCore$Packer" (9 : Nat) ({ cls := "CheriCore$Packer", name := "bitsOf", desc := "(J)I" } : Jvm.MethodName)) ∈ TB := tbm_3 (List.mem_of_getElem? (i := 115) (by decide +kernel))
theorem tb_3_116 : (Jvm.Cond.static ({ cls := "CheriCore$Packer", name := "bitsOf", desc := "(J)I" } : Jvm.MethodName)) ∈ TB := tbm_3 (List.mem_of_getElem? (i := 116) (by decide +kernel))
theorem tb_3_117 : (Jvm.Cond.code ({ cls := "CheriCore$Packer", name := "bitsOf", desc := "(J)I" } : Jvm.MethodName) prog_8_method_5_code (3 : Nat) (Option.some Jvm.ClassFile.FieldType.int)) ∈ TB := tbm_3 (List.mem_of_getElem? (i := 117) (rfl))
theorem tb_3_118 : (Jvm.Cond.constantLong "CheriCore$Packer" (19 : Nat) (63 : Int64)) ∈ TB := tbm_3 (List.mem_of_getElem? (i := 118) (by decide +kernel))
theorem tb_3_119 : (Jvm.Cond.methodLink "CheriCore$Packer" (25 : Nat) ({ cls := "CheriCore$Packer", name := "roundedDown", desc := "(J)J" } : Jvm.MethodName)) ∈ TB := tbm_3 (List.mem_of_getElem? (i := 119) (by decide +kernel))
theorem tb_3_121 : (Jvm.Cond.instanceMethod ({ cls := "CheriCore$Packer", name := "roundedDown", desc := "(J)J" } : Jvm.MethodName)) ∈ TB := tbm_3 (List.mem_of_getElem? (i := 121) (by decide +kernel))
theorem tb_3_122 : (Jvm.Cond.code ({ cls := "CheriCore$Packer", name := "roundedDown", desc := "(J)J" } : Jvm.MethodName) prog_8_method_3_code (3 : Nat) (Option.some Jvm.ClassFile.FieldType.long)) ∈ TB := tbm_3 (List.mem_of_getElem? (i := 122) (rfl))
theorem tb_3_123 : (Jvm.Cond.constantLong "CheriCore$Packer" (44 : Nat) (8 : Int64)) ∈ TB := tbm_3 (List.mem_of_getElem? (i := 123) (by decide +kernel))
theorem tb_3_124 : (Jvm.Cond.methodLink "CheriCore$Packer" (29 : Nat) ({ cls := "CheriCore$Packer", name := "roundedUp", desc := "(J)J" } : Jvm.MethodName)) ∈ TB := tbm_3 (List.mem_of_getElem? (i := 124) (by decide +kernel))
theorem tb_3_126 : (Jvm.Cond.instanceMethod ({ cls := "CheriCore$Packer", name := "roundedUp", desc := "(J)J" } : Jvm.MethodName)) ∈ TB := tbm_3 (List.mem_of_getElem? (i := 126) (by decide +kernel))
theorem tb_3_127 : (Jvm.Cond.code ({ cls := "CheriCore$Packer", name := "roundedUp", desc := "(J)J" } : Jvm.MethodName) prog_8_method_4_code (5 : Nat) (Option.some Jvm.ClassFile.FieldType.long)) ∈ TB := tbm_3 (List.mem_of_getElem? (i := 127) (rfl))
theorem tb_3_128 : (Jvm.Cond.constantLong "CheriCore$Packer" (32 : Nat) (16 : Int64)) ∈ TB := tbm_3 (List.mem_of_getElem? (i := 128) (by decide +kernel))
theorem tb_3_129 : (Jvm.Cond.constant "CheriCore" (114 : Nat) (983040 : Int32)) ∈ TB := tbm_3 (List.mem_of_getElem? (i := 129) (by decide +kernel))
theorem tb_3_130 : (Jvm.Cond.methodLink "CheriCore" (122 : Nat) ({ cls := "CheriCore$Capability", name := "become", desc := "(LCheriCore$Capability;)V" } : Jvm.MethodName)) ∈ TB := tbm_3 (List.mem_of_getElem? (i := 130) (by decide +kernel))
theorem tb_3_131 : (Jvm.Cond.instanceMethod ({ cls := "CheriCore$Capability", name := "become", desc := "(LCheriCore$Capability;)V" } : Jvm.MethodName)) ∈ TB := tbm_3 (List.mem_of_getElem? (i := 131) (by decide +kernel))
theorem tb_3_132 : (Jvm.Cond.selects "CheriCore$Capability" ({ cls := "CheriCore$Capability", name := "become", desc := "(LCheriCore$Capability;)V" } : Jvm.MethodName) ({ cls := "CheriCore$Capability", name := "become", desc := "(LCheriCore$Capability;)V" } : Jvm.MethodName)) ∈ TB := tbm_3 (List.mem_of_getElem? (i := 132) (by decide +kernel))
theorem tb_3_133 : (Jvm.Cond.code ({ cls := "CheriCore$Capability", name := "become", desc := "(LCheriCore$Capability;)V" } : Jvm.MethodName) prog_3_method_2_code (2 : Nat) (Option.none : Option Jvm.ClassFile.FieldType)) ∈ TB := tbm_3 (List.mem_of_getElem? (i := 133) (rfl))
theorem tb_3_134 : (Jvm.Cond.methodLink "CheriCoreLaw" (66 : Nat) ({ cls := "CheriCoreLaw", name := "put", desc := "(LCheriCore;III)I" } : Jvm.MethodName)) ∈ TB := tbm_3 (List.mem_of_getElem? (i := 134) (by decide +kernel))
theorem tb_3_135 : (Jvm.Cond.static ({ cls := "CheriCoreLaw", name := "put", desc := "(LCheriCore;III)I" } : Jvm.MethodName)) ∈ TB := tbm_3 (List.mem_of_getElem? (i := 135) (by decide +kernel))
theorem tb_3_137 : (Jvm.Cond.methodLink "CheriCoreLaw" (23 : Nat) ({ cls := "CheriCore", name := "put", desc := "(III)V" } : Jvm.MethodName)) ∈ TB := tbm_3 (List.mem_of_getElem? (i := 137) (by decide +kernel))
theorem tb_3_138 : (Jvm.Cond.instanceMethod ({ cls := "CheriCore", name := "put", desc := "(III)V" } : Jvm.MethodName)) ∈ TB := tbm_3 (List.mem_of_getElem? (i := 138) (by decide +kernel))
theorem tb_3_139 : (Jvm.Cond.selects "CheriCore" ({ cls := "CheriCore", name := "put", desc := "(III)V" } : Jvm.MethodName) ({ cls := "CheriCore", name := "put", desc := "(III)V" } : Jvm.MethodName)) ∈ TB := tbm_3 (List.mem_of_getElem? (i := 139) (by decide +kernel))
theorem tb_3_140 : (Jvm.Cond.code ({ cls := "CheriCore", name := "put", desc := "(III)V" } : Jvm.MethodName) prog_1_method_4_code (4 : Nat) (Option.none : Option Jvm.ClassFile.FieldType)) ∈ TB := tbm_3 (List.mem_of_getElem? (i := 140) (rfl))
theorem tb_3_141 : (Jvm.Cond.methodLink "CheriCoreLaw" (70 : Nat) ({ cls := "CheriCoreLaw", name := "run", desc := "(LCheriCore;I[J)I" } : Jvm.MethodName)) ∈ TB := tbm_3 (List.mem_of_getElem? (i := 141) (by decide +kernel))
theorem tb_3_142 : (Jvm.Cond.static ({ cls := "CheriCoreLaw", name := "run", desc := "(LCheriCore;I[J)I" } : Jvm.MethodName)) ∈ TB := tbm_3 (List.mem_of_getElem? (i := 142) (by decide +kernel))
theorem tb_3_144 : (Jvm.Cond.methodLink "CheriCoreLaw" (27 : Nat) ({ cls := "CheriCore", name := "run", desc := "(I)I" } : Jvm.MethodName)) ∈ TB := tbm_3 (List.mem_of_getElem? (i := 144) (by decide +kernel))
theorem tb_3_145 : (Jvm.Cond.instanceMethod ({ cls := "CheriCore", name := "run", desc := "(I)I" } : Jvm.MethodName)) ∈ TB := tbm_3 (List.mem_of_getElem? (i := 145) (by decide +kernel))
theorem tb_3_146 : (Jvm.Cond.selects "CheriCore" ({ cls := "CheriCore", name := "run", desc := "(I)I" } : Jvm.MethodName) ({ cls := "CheriCore", name := "run", desc := "(I)I" } : Jvm.MethodName)) ∈ TB := tbm_3 (List.mem_of_getElem? (i := 146) (by decide +kernel))
theorem tb_3_147 : (Jvm.Cond.code ({ cls := "CheriCore", name := "run", desc := "(I)I" } : Jvm.MethodName) prog_1_method_5_code (3 : Nat) (Option.some Jvm.ClassFile.FieldType.int)) ∈ TB := tbm_3 (List.mem_of_getElem? (i := 147) (rfl))
theorem tb_3_150 : (Jvm.Cond.methodLink "CheriCore" (139 : Nat) ({ cls := "CheriCore", name := "step", desc := "()V" } : Jvm.MethodName)) ∈ TB := tbm_3 (List.mem_of_getElem? (i := 150) (by decide +kernel))
theorem tb_3_152 : (Jvm.Cond.instanceMethod ({ cls := "CheriCore", name := "step", desc := "()V" } : Jvm.MethodName)) ∈ TB := tbm_3 (List.mem_of_getElem? (i := 152) (by decide +kernel))
theorem tb_3_153 : (Jvm.Cond.code ({ cls := "CheriCore", name := "step", desc := "()V" } : Jvm.MethodName) prog_1_method_17_code (3 : Nat) (Option.none : Option Jvm.ClassFile.FieldType)) ∈ TB := tbm_3 (List.mem_of_getElem? (i := 153) (rfl))
theorem tb_3_154 : (Jvm.Cond.methodLink "CheriCore" (207 : Nat) ({ cls := "CheriCore$State", name := "pccFault", desc := "()I" } : Jvm.MethodName)) ∈ TB := tbm_3 (List.mem_of_getElem? (i := 154) (by decide +kernel))
theorem tb_3_155 : (Jvm.Cond.instanceMethod ({ cls := "CheriCore$State", name := "pccFault", desc := "()I" } : Jvm.MethodName)) ∈ TB := tbm_3 (List.mem_of_getElem? (i := 155) (by decide +kernel))
theorem tb_3_156 : (Jvm.Cond.selects "CheriCore$State" ({ cls := "CheriCore$State", name := "pccFault", desc := "()I" } : Jvm.MethodName) ({ cls := "CheriCore$State", name := "pccFault", desc := "()I" } : Jvm.MethodName)) ∈ TB := tbm_3 (List.mem_of_getElem? (i := 156) (by decide +kernel))
theorem tb_3_157 : (Jvm.Cond.code ({ cls := "CheriCore$State", name := "pccFault", desc := "()I" } : Jvm.MethodName) prog_10_method_5_code (2 : Nat) (Option.some Jvm.ClassFile.FieldType.int)) ∈ TB := tbm_3 (List.mem_of_getElem? (i := 157) (rfl))
theorem tb_3_158 : (Jvm.Cond.methodLink "CheriCore$State" (54 : Nat) ({ cls := "CheriCore$State", name := "authorityFault", desc := "(III)I" } : Jvm.MethodName)) ∈ TB := tbm_3 (List.mem_of_getElem? (i := 158) (by decide +kernel))
theorem tb_3_159 : (Jvm.Cond.instanceMethod ({ cls := "CheriCore$State", name := "authorityFault", desc := "(III)I" } : Jvm.MethodName)) ∈ TB := tbm_3 (List.mem_of_getElem? (i := 159) (by decide +kernel))
theorem tb_3_160 : (Jvm.Cond.selects "CheriCore$State" ({ cls := "CheriCore$State", name := "authorityFault", desc := "(III)I" } : Jvm.MethodName) ({ cls := "CheriCore$State", name := "authorityFault", desc := "(III)I" } : Jvm.MethodName)) ∈ TB := tbm_3 (List.mem_of_getElem? (i := 160) (by decide +kernel))
theorem tb_3_161 : (Jvm.Cond.code ({ cls := "CheriCore$State", name := "authorityFault", desc := "(III)I" } : Jvm.MethodName) prog_10_method_6_code (5 : Nat) (Option.some Jvm.ClassFile.FieldType.int)) ∈ TB := tbm_3 (List.mem_of_getElem? (i := 161) (rfl))
theorem tb_3_162 : (Jvm.Cond.methodLink "CheriCore$State" (69 : Nat) ({ cls := "CheriCore$State", name := "capabilityFault", desc := "(II)I" } : Jvm.MethodName)) ∈ TB := tbm_3 (List.mem_of_getElem? (i := 162) (by decide +kernel))
theorem tb_3_163 : (Jvm.Cond.instanceMethod ({ cls := "CheriCore$State", name := "capabilityFault", desc := "(II)I" } : Jvm.MethodName)) ∈ TB := tbm_3 (List.mem_of_getElem? (i := 163) (by decide +kernel))
theorem tb_3_164 : (Jvm.Cond.selects "CheriCore$State" ({ cls := "CheriCore$State", name := "capabilityFault", desc := "(II)I" } : Jvm.MethodName) ({ cls := "CheriCore$State", name := "capabilityFault", desc := "(II)I" } : Jvm.MethodName)) ∈ TB := tbm_3 (List.mem_of_getElem? (i := 164) (by decide +kernel))
theorem tb_3_165 : (Jvm.Cond.code ({ cls := "CheriCore$State", name := "capabilityFault", desc := "(II)I" } : Jvm.MethodName) prog_10_method_3_code (3 : Nat) (Option.some Jvm.ClassFile.FieldType.int)) ∈ TB := tbm_3 (List.mem_of_getElem? (i := 165) (rfl))
theorem tb_3_166 : (Jvm.Cond.methodLink "CheriCore$State" (45 : Nat) ({ cls := "CheriCore$State", name := "fault", desc := "(II)I" } : Jvm.MethodName)) ∈ TB := tbm_3 (List.mem_of_getElem? (i := 166) (by decide +kernel))
theorem tb_3_167 : (Jvm.Cond.instanceMethod ({ cls := "CheriCore$State", name := "fault", desc := "(II)I" } : Jvm.MethodName)) ∈ TB := tbm_3 (List.mem_of_getElem? (i := 167) (by decide +kernel))
theorem tb_3_168 : (Jvm.Cond.selects "CheriCore$State" ({ cls := "CheriCore$State", name := "fault", desc := "(II)I" } : Jvm.MethodName) ({ cls := "CheriCore$State", name := "fault", desc := "(II)I" } : Jvm.MethodName)) ∈ TB := tbm_3 (List.mem_of_getElem? (i := 168) (by decide +kernel))
theorem tb_3_169 : (Jvm.Cond.code ({ cls := "CheriCore$State", name := "fault", desc := "(II)I" } : Jvm.MethodName) prog_10_method_2_code (3 : Nat) (Option.some Jvm.ClassFile.FieldType.int)) ∈ TB := tbm_3 (List.mem_of_getElem? (i := 169) (rfl))
theorem tb_3_170 : (Jvm.Cond.methodLink "CheriCore$State" (72 : Nat) ({ cls := "CheriCore$Capability", name := "isOpen", desc := "()Z" } : Jvm.MethodName)) ∈ TB := tbm_3 (List.mem_of_getElem? (i := 170) (by decide +kernel))
theorem tb_3_171 : (Jvm.Cond.instanceMethod ({ cls := "CheriCore$Capability", name := "isOpen", desc := "()Z" } : Jvm.MethodName)) ∈ TB := tbm_3 (List.mem_of_getElem? (i := 171) (by decide +kernel))
theorem tb_3_172 : (Jvm.Cond.selects "CheriCore$Capability" ({ cls := "CheriCore$Capability", name := "isOpen", desc := "()Z" } : Jvm.MethodName) ({ cls := "CheriCore$Capability", name := "isOpen", desc := "()Z" } : Jvm.MethodName)) ∈ TB := tbm_3 (List.mem_of_getElem? (i := 172) (by decide +kernel))
theorem tb_3_173 : (Jvm.Cond.code ({ cls := "CheriCore$Capability", name := "isOpen", desc := "()Z" } : Jvm.MethodName) prog_3_method_12_code (1 : Nat) (Option.some Jvm.ClassFile.FieldType.boolean)) ∈ TB := tbm_3 (List.mem_of_getElem? (i := 173) (rfl))
theorem tb_3_174 : (Jvm.Cond.methodLink "CheriCore$Capability" (45 : Nat) ({ cls := "CheriCore$Capability", name := "type", desc := "()I" } : Jvm.MethodName)) ∈ TB := tbm_3 (List.mem_of_getElem? (i := 174) (by decide +kernel))
theorem tb_3_175 : (Jvm.Cond.instanceMethod ({ cls := "CheriCore$Capability", name := "type", desc := "()I" } : Jvm.MethodName)) ∈ TB := tbm_3 (List.mem_of_getElem? (i := 175) (by decide +kernel))
theorem tb_3_176 : (Jvm.Cond.selects "CheriCore$Capability" ({ cls := "CheriCore$Capability", name := "type", desc := "()I" } : Jvm.MethodName) ({ cls := "CheriCore$Capability", name := "type", desc := "()I" } : Jvm.MethodName)) ∈ TB := tbm_3 (List.mem_of_getElem? (i := 176) (by decide +kernel))
theorem tb_3_177 : (Jvm.Cond.code ({ cls := "CheriCore$Capability", name := "type", desc := "()I" } : Jvm.MethodName) prog_3_method_11_code (1 : Nat) (Option.some Jvm.ClassFile.FieldType.int)) ∈ TB := tbm_3 (List.mem_of_getElem? (i := 177) (rfl))
theorem tb_3_178 : (Jvm.Cond.methodLink "CheriCore$State" (76 : Nat) ({ cls := "CheriCore$Capability", name := "may", desc := "(I)Z" } : Jvm.MethodName)) ∈ TB := tbm_3 (List.mem_of_getElem? (i := 178) (by decide +kernel))
theorem tb_3_179 : (Jvm.Cond.instanceMethod ({ cls := "CheriCore$Capability", name := "may", desc := "(I)Z" } : Jvm.MethodName)) ∈ TB := tbm_3 (List.mem_of_getElem? (i := 179) (by decide +kernel))
theorem tb_3_180 : (Jvm.Cond.selects "CheriCore$Capability" ({ cls := "CheriCore$Capability", name := "may", desc := "(I)Z" } : Jvm.MethodName) ({ cls := "CheriCore$Capability", name := "may", desc := "(I)Z" } : Jvm.MethodName)) ∈ TB := tbm_3 (List.mem_of_getElem? (i := 180) (by decide +kernel))
theorem tb_3_181 : (Jvm.Cond.code ({ cls := "CheriCore$Capability", name := "may", desc := "(I)Z" } : Jvm.MethodName) prog_3_method_10_code (2 : Nat) (Option.some Jvm.ClassFile.FieldType.boolean)) ∈ TB := tbm_3 (List.mem_of_getElem? (i := 181) (rfl))
theorem tb_3_182 : (Jvm.Cond.methodLink "CheriCore$State" (61 : Nat) ({ cls := "CheriCore$State", name := "placeFault", desc := "(IIII)I" } : Jvm.MethodName)) ∈ TB := tbm_3 (List.mem_of_getElem? (i := 182) (by decide +kernel))
theorem tb_3_183 : (Jvm.Cond.instanceMethod ({ cls := "CheriCore$State", name := "placeFault", desc := "(IIII)I" } : Jvm.MethodName)) ∈ TB := tbm_3 (List.mem_of_getElem? (i := 183) (by decide +kernel))
theorem tb_3_184 : (Jvm.Cond.selects "CheriCore$State" ({ cls := "CheriCore$State", name := "placeFault", desc := "(IIII)I" } : Jvm.MethodName) ({ cls := "CheriCore$State", name := "placeFault", desc := "(IIII)I" } : Jvm.MethodName)) ∈ TB := tbm_3 (List.mem_of_getElem? (i := 184) (by decide +kernel))
theorem tb_3_185 : (Jvm.Cond.code ({ cls := "CheriCore$State", name := "placeFault", desc := "(IIII)I" } : Jvm.MethodName) prog_10_method_7_code (5 : Nat) (Option.some Jvm.ClassFile.FieldType.int)) ∈ TB := tbm_3 (List.mem_of_getElem? (i := 185) (rfl))
theorem tb_3_186 : (Jvm.Cond.methodLink "CheriCore$State" (80 : Nat) ({ cls := "CheriCore$Capability", name := "covers", desc := "(IJ)Z" } : Jvm.MethodName)) ∈ TB := tbm_3 (List.mem_of_getElem? (i := 186) (by decide +kernel))
theorem tb_3_187 : (Jvm.Cond.instanceMethod ({ cls := "CheriCore$Capability", name := "covers", desc := "(IJ)Z" } : Jvm.MethodName)) ∈ TB := tbm_3 (List.mem_of_getElem? (i := 187) (by decide +kernel))
theorem tb_3_188 : (Jvm.Cond.selects "CheriCore$Capability" ({ cls := "CheriCore$Capability", name := "covers", desc := "(IJ)Z" } : Jvm.MethodName) ({ cls := "CheriCore$Capability", name := "covers", desc := "(IJ)Z" } : Jvm.MethodName)) ∈ TB := tbm_3 (List.mem_of_getElem? (i := 188) (by decide +kernel))
theorem tb_3_189 : (Jvm.Cond.code ({ cls := "CheriCore$Capability", name := "covers", desc := "(IJ)Z" } : Jvm.MethodName) prog_3_method_15_code (6 : Nat) (Option.some Jvm.ClassFile.FieldType.boolean)) ∈ TB := tbm_3 (List.mem_of_getElem? (i := 189) (rfl))
theorem tb_3_190 : (Jvm.Cond.methodLink "CheriCore" (213 : Nat) ({ cls := "CheriCore$Pipeline", name := "advance", desc := "(I)LCheriCore$Instruction;" } : Jvm.MethodName)) ∈ TB := tbm_3 (List.mem_of_getElem? (i := 190) (by decide +kernel))
theorem tb_3_191 : (Jvm.Cond.instanceMethod ({ cls := "CheriCore$Pipeline", name := "advance", desc := "(I)LCheriCore$Instruction;" } : Jvm.MethodName)) ∈ TB := tbm_3 (List.mem_of_getElem? (i := 191) (by decide +kernel))
theorem tb_3_192 : (Jvm.Cond.selects "CheriCore$Pipeline" ({ cls := "CheriCore$Pipeline", name := "advance", desc := "(I)LCheriCore$Instruction;" } : Jvm.MethodName) ({ cls := "CheriCore$Pipeline", name := "advance", desc := "(I)LCheriCore$Instruction;" } : Jvm.MethodName)) ∈ TB := tbm_3 (List.mem_of_getElem? (i := 192) (by decide +kernel))
theorem tb_3_193 : (Jvm.Cond.code ({ cls := "CheriCore$Pipeline", name := "advance", desc := "(I)LCheriCore$Instruction;" } : Jvm.MethodName) prog_9_method_2_code (3 : Nat) (Option.some (Jvm.ClassFile.FieldType.object "CheriCore$Instruction"))) ∈ TB := tbm_3 (List.mem_of_getElem? (i := 193) (rfl))
theorem tb_3_194 : (Jvm.Cond.methodLink "CheriCore$Pipeline" (32 : Nat) ({ cls := "CheriCore$Memory", name := "readWord", desc := "(I)I" } : Jvm.MethodName)) ∈ TB := tbm_3 (List.mem_of_getElem? (i := 194) (by decide +kernel))
theorem tb_3_195 : (Jvm.Cond.methodLink "CheriCore$Pipeline" (38 : Nat) ({ cls := "CheriCore$Instruction", name := "decode", desc := "(II)V" } : Jvm.MethodName)) ∈ TB := tbm_3 (List.mem_of_getElem? (i := 195) (by decide +kernel))
theorem tb_3_196 : (Jvm.Cond.instanceMethod ({ cls := "CheriCore$Instruction", name := "decode", desc := "(II)V" } : Jvm.MethodName)) ∈ TB := tbm_3 (List.mem_of_getElem? (i := 196) (by decide +kernel))
theorem tb_3_197 : (Jvm.Cond.selects "CheriCore$Instruction" ({ cls := "CheriCore$Instruction", name := "decode", desc := "(II)V" } : Jvm.MethodName) ({ cls := "CheriCore$Instruction", name := "decode", desc := "(II)V" } : Jvm.MethodName)) ∈ TB := tbm_3 (List.mem_of_getElem? (i := 197) (by decide +kernel))
theorem tb_3_198 : (Jvm.Cond.code ({ cls := "CheriCore$Instruction", name := "decode", desc := "(II)V" } : Jvm.MethodName) prog_6_method_2_code (3 : Nat) (Option.none : Option Jvm.ClassFile.FieldType)) ∈ TB := tbm_3 (List.mem_of_getElem? (i := 198) (rfl))
theorem tb_3_199 : (Jvm.Cond.methodLink "CheriCore$Instruction" (36 : Nat) ({ cls := "CheriCore$Instruction", name := "immediateOf", desc := "()I" } : Jvm.MethodName)) ∈ TB := tbm_3 (List.mem_of_getElem? (i := 199) (by decide +kernel))
theorem tb_3_2 : (Jvm.Cond.methodLink "java/lang/IndexOutOfBoundsException" (7 : Nat) ({ cls := "java/lang/RuntimeException", name := "<init>", desc := "(Ljava/lang/String;)V" } : Jvm.MethodName)) ∈ TB := tbm_3 (List.mem_of_getElem? (i := 2) (by decide +kernel))
theorem tb_3_201 : (Jvm.Cond.instanceMethod ({ cls := "CheriCore$Instruction", name := "immediateOf", desc := "()I" } : Jvm.MethodName)) ∈ TB := tbm_3 (List.mem_of_getElem? (i := 201) (by decide +kernel))
theorem tb_3_202 : (Jvm.Cond.code ({ cls := "CheriCore$Instruction", name := "immediateOf", desc := "()I" } : Jvm.MethodName) prog_6_method_3_code (1 : Nat) (Option.some Jvm.ClassFile.FieldType.int)) ∈ TB := tbm_3 (List.mem_of_getElem? (i := 202) (rfl))
theorem tb_3_203 : (Jvm.Cond.constant "CheriCore$Instruction" (43 : Nat) (1044480 : Int32)) ∈ TB := tbm_3 (List.mem_of_getElem? (i := 203) (by decide +kernel))
theorem tb_3_204 : (Jvm.Cond.methodLink "CheriCore$Pipeline" (42 : Nat) ({ cls := "CheriCore$Pipeline", name := "fetch", desc := "(I)V" } : Jvm.MethodName)) ∈ TB := tbm_3 (List.mem_of_getElem? (i := 204) (by decide +kernel))
theorem tb_3_206 : (Jvm.Cond.instanceMethod ({ cls := "CheriCore$Pipeline", name := "fetch", desc := "(I)V" } : Jvm.MethodName)) ∈ TB := tbm_3 (List.mem_of_getElem? (i := 206) (by decide +kernel))
theorem tb_3_207 : (Jvm.Cond.code ({ cls := "CheriCore$Pipeline", name := "fetch", desc := "(I)V" } : Jvm.MethodName) prog_9_method_4_code (2 : Nat) (Option.none : Option Jvm.ClassFile.FieldType)) ∈ TB := tbm_3 (List.mem_of_getElem? (i := 207) (rfl))
theorem tb_3_208 : (Jvm.Cond.methodLink "CheriCore" (222 : Nat) ({ cls := "CheriCore$CapabilityUnit", name := "execute", desc := "(LCheriCore$Instruction;)I" } : Jvm.MethodName)) ∈ TB := tbm_3 (List.mem_of_getElem? (i := 208) (by decide +kernel))
theorem tb_3_209 : (Jvm.Cond.instanceMethod ({ cls := "CheriCore$CapabilityUnit", name := "execute", desc := "(LCheriCore$Instruction;)I" } : Jvm.MethodName)) ∈ TB := tbm_3 (List.mem_of_getElem? (i := 209) (by decide +kernel))
theorem tb_3_210 : (Jvm.Cond.selects "CheriCore$CapabilityUnit" ({ cls := "CheriCore$CapabilityUnit", name := "execute", desc := "(LCheriCore$Instruction;)I" } : Jvm.MethodName) ({ cls := "CheriCore$CapabilityUnit", name := "execute", desc := "(LCheriCore$Instruction;)I" } : Jvm.MethodName)) ∈ TB := tbm_3 (List.mem_of_getElem? (i := 210) (by decide +kernel))
theorem tb_3_211 : (Jvm.Cond.code ({ cls := "CheriCore$CapabilityUnit", name := "execute", desc := "(LCheriCore$Instruction;)I" } : Jvm.MethodName) prog_4_method_2_code (3 : Nat) (Option.some Jvm.ClassFile.FieldType.int)) ∈ TB := tbm_3 (List.mem_of_getElem? (i := 211) (rfl))
theorem tb_3_212 : (Jvm.Cond.methodLink "CheriCore$CapabilityUnit" (40 : Nat) ({ cls := "CheriCore$CapabilityUnit", name := "byNumber", desc := "(LCheriCore$Instruction;LCheriCore$Capability;LCheriCore$Capability;)I" } : Jvm.MethodName)) ∈ TB := tbm_3 (List.mem_of_getElem? (i := 212) (by decide +kernel))
theorem tb_3_214 : (Jvm.Cond.instanceMethod ({ cls := "CheriCore$CapabilityUnit", name := "byNumber", desc := "(LCheriCore$Instruction;LCheriCore$Capability;LCheriCore$Capability;)I" } : Jvm.MethodName)) ∈ TB := tbm_3 (List.mem_of_getElem? (i := 214) (by decide +kernel))
theorem tb_3_215 : (Jvm.Cond.code ({ cls := "CheriCore$CapabilityUnit", name := "byNumber", desc := "(LCheriCore$Instruction;LCheriCore$Capability;LCheriCore$Capability;)I" } : Jvm.MethodName) prog_4_method_3_code (4 : Nat) (Option.some Jvm.ClassFile.FieldType.int)) ∈ TB := tbm_3 (List.mem_of_getElem? (i := 215) (rfl))
theorem tb_3_216 : (Jvm.Cond.methodLink "CheriCore$CapabilityUnit" (67 : Nat) ({ cls := "CheriCore$CapabilityUnit", name := "special", desc := "(LCheriCore$Instruction;LCheriCore$Capability;)I" } : Jvm.MethodName)) ∈ TB := tbm_3 (List.mem_of_getElem? (i := 216) (by decide +kernel))
theorem tb_3_218 : (Jvm.Cond.instanceMethod ({ cls := "CheriCore$CapabilityUnit", name := "special", desc := "(LCheriCore$Instruction;LCheriCore$Capability;)I" } : Jvm.MethodName)) ∈ TB := tbm_3 (List.mem_of_getElem? (i := 218) (by decide +kernel))
theorem tb_3_219 : (Jvm.Cond.code ({ cls := "CheriCore$CapabilityUnit", name := "special", desc := "(LCheriCore$Instruction;LCheriCore$Capability;)I" } : Jvm.MethodName) prog_4_method_5_code (5 : Nat) (Option.some Jvm.ClassFile.FieldType.int)) ∈ TB := tbm_3 (List.mem_of_getElem? (i := 219) (rfl))
theorem tb_3_220 : (Jvm.Cond.methodLink "CheriCore$CapabilityUnit" (60 : Nat) ({ cls := "CheriCore$State", name := "illegal", desc := "(LCheriCore$Instruction;)I" } : Jvm.MethodName)) ∈ TB := tbm_3 (List.mem_of_getElem? (i := 220) (by decide +kernel))
theorem tb_3_221 : (Jvm.Cond.instanceMethod ({ cls := "CheriCore$State", name := "illegal", desc := "(LCheriCore$Instruction;)I" } : Jvm.MethodName)) ∈ TB := tbm_3 (List.mem_of_getElem? (i := 221) (by decide +kernel))
theorem tb_3_222 : (Jvm.Cond.selects "CheriCore$State" ({ cls := "CheriCore$State", name := "illegal", desc := "(LCheriCore$Instruction;)I" } : Jvm.MethodName) ({ cls := "CheriCore$State", name := "illegal", desc := "(LCheriCore$Instruction;)I" } : Jvm.MethodName)) ∈ TB := tbm_3 (List.mem_of_getElem? (i := 222) (by decide +kernel))
theorem tb_3_223 : (Jvm.Cond.code ({ cls := "CheriCore$State", name := "illegal", desc := "(LCheriCore$Instruction;)I" } : Jvm.MethodName) prog_10_method_4_code (2 : Nat) (Option.some Jvm.ClassFile.FieldType.int)) ∈ TB := tbm_3 (List.mem_of_getElem? (i := 223) (rfl))
theorem tb_3_224 : (Jvm.Cond.methodLink "CheriCore$CapabilityUnit" (132 : Nat) ({ cls := "CheriCore$Capability", name := "may", desc := "(I)Z" } : Jvm.MethodName)) ∈ TB := tbm_3 (List.mem_of_getElem? (i := 224) (by decide +kernel))
theorem tb_3_225 : (Jvm.Cond.methodLink "CheriCore$CapabilityUnit" (136 : Nat) ({ cls := "CheriCore$State", name := "capabilityFault", desc := "(II)I" } : Jvm.MethodName)) ∈ TB := tbm_3 (List.mem_of_getElem? (i := 225) (by decide +kernel))
theorem tb_3_226 : (Jvm.Cond.methodLink "CheriCore$CapabilityUnit" (117 : Nat) ({ cls := "CheriCore$Capability", name := "become", desc := "(LCheriCore$Capability;)V" } : Jvm.MethodName)) ∈ TB := tbm_3 (List.mem_of_getElem? (i := 226) (by decide +kernel))
theorem tb_3_227 : (Jvm.Cond.methodLink "CheriCore$CapabilityUnit" (125 : Nat) ({ cls := "CheriCore$State", name := "answer", desc := "(I)I" } : Jvm.MethodName)) ∈ TB := tbm_3 (List.mem_of_getElem? (i := 227) (by decide +kernel))
theorem tb_3_228 : (Jvm.Cond.instanceMethod ({ cls := "CheriCore$State", name := "answer", desc := "(I)I" } : Jvm.MethodName)) ∈ TB := tbm_3 (List.mem_of_getElem? (i := 228) (by decide +kernel))
theorem tb_3_229 : (Jvm.Cond.selects "CheriCore$State" ({ cls := "CheriCore$State", name := "answer", desc := "(I)I" } : Jvm.MethodName) ({ cls := "CheriCore$State", name := "answer", desc := "(I)I" } : Jvm.MethodName)) ∈ TB := tbm_3 (List.mem_of_getElem? (i := 229) (by decide +kernel))
theorem tb_3_230 : (Jvm.Cond.code ({ cls := "CheriCore$State", name := "answer", desc := "(I)I" } : Jvm.MethodName) prog_10_method_9_code (2 : Nat) (Option.some Jvm.ClassFile.FieldType.int)) ∈ TB := tbm_3 (List.mem_of_getElem? (i := 230) (rfl))
theorem tb_3_231 : (Jvm.Cond.methodLink "CheriCore$State" (84 : Nat) ({ cls := "CheriCore$Capability", name := "become", desc := "(LCheriCore$Capability;)V" } : Jvm.MethodName)) ∈ TB := tbm_3 (List.mem_of_getElem? (i := 231) (by decide +kernel))
theorem tb_3_232 : (Jvm.Cond.constantLong "CheriCore$CapabilityUnit" (71 : Nat) (4294967295 : Int64)) ∈ TB := tbm_3 (List.mem_of_getElem? (i := 232) (by decide +kernel))
theorem tb_3_233 : (Jvm.Cond.methodLink "CheriCore$CapabilityUnit" (56 : Nat) ({ cls := "CheriCore$CapabilityUnit", name := "bounded", desc := "(LCheriCore$Instruction;LCheriCore$Capability;JZ)I" } : Jvm.MethodName)) ∈ TB := tbm_3 (List.mem_of_getElem? (i := 233) (by decide +kernel))
theorem tb_3_235 : (Jvm.Cond.instanceMethod ({ cls := "CheriCore$CapabilityUnit", name := "bounded", desc := "(LCheriCore$Instruction;LCheriCore$Capability;JZ)I" } : Jvm.MethodName)) ∈ TB := tbm_3 (List.mem_of_getElem? (i := 235) (by decide +kernel))
theorem tb_3_236 : (Jvm.Cond.code ({ cls := "CheriCore$CapabilityUnit", name := "bounded", desc := "(LCheriCore$Instruction;LCheriCore$Capability;JZ)I" } : Jvm.MethodName) prog_4_method_6_code (9 : Nat) (Option.some Jvm.ClassFile.FieldType.int)) ∈ TB := tbm_3 (List.mem_of_getElem? (i := 236) (rfl))
theorem tb_3_237 : (Jvm.Cond.constantLong "CheriCore$CapabilityUnit" (139 : Nat) (4294967296 : Int64)) ∈ TB := tbm_3 (List.mem_of_getElem? (i := 237) (by decide +kernel))
theorem tb_3_238 : (Jvm.Cond.methodLink "CheriCore$CapabilityUnit" (141 : Nat) ({ cls := "java/lang/Math", name := "min", desc := "(JJ)J" } : Jvm.MethodName)) ∈ TB := tbm_3 (List.mem_of_getElem? (i := 238) (by decide +kernel))
theorem tb_3_239 : (Jvm.Cond.static ({ cls := "java/lang/Math", name := "min", desc := "(JJ)J" } : Jvm.MethodName)) ∈ TB := tbm_3 (List.mem_of_getElem? (i := 239) (by decide +kernel))
theorem tb_3_24 : (Jvm.Cond.arrayClass Jvm.ClassFile.FieldType.byte) ∈ TB := tbm_3 (List.mem_of_getElem? (i := 24) (by decide +kernel))
theorem tb_3_25 : (Jvm.Cond.methodLink "CheriCore" (65 : Nat) ({ cls := "CheriCore$Memory", name := "readWord", desc := "(I)I" } : Jvm.MethodName)) ∈ TB := tbm_3 (List.mem_of_getElem? (i := 25) (by decide +kernel))
theorem tb_3_26 : (Jvm.Cond.instanceMethod ({ cls := "CheriCore$Memory", name := "readWord", desc := "(I)I" } : Jvm.MethodName)) ∈ TB := tbm_3 (List.mem_of_getElem? (i := 26) (by decide +kernel))
theorem tb_3_27 : (Jvm.Cond.selects "CheriCore$Memory" ({ cls := "CheriCore$Memory", name := "readWord", desc := "(I)I" } : Jvm.MethodName) ({ cls := "CheriCore$Memory", name := "readWord", desc := "(I)I" } : Jvm.MethodName)) ∈ TB := tbm_3 (List.mem_of_getElem? (i := 27) (by decide +kernel))
theorem tb_3_28 : (Jvm.Cond.code ({ cls := "CheriCore$Memory", name := "readWord", desc := "(I)I" } : Jvm.MethodName) prog_7_method_2_code (2 : Nat) (Option.some Jvm.ClassFile.FieldType.int)) ∈ TB := tbm_3 (List.mem_of_getElem? (i := 28) (rfl))
theorem tb_3_29 : (Jvm.Cond.methodLink "CheriCore$Memory" (39 : Nat) ({ cls := "CheriCore$Memory", name := "slotOf", desc := "(I)I" } : Jvm.MethodName)) ∈ TB := tbm_3 (List.mem_of_getElem? (i := 29) (by decide +kernel))
theorem tb_3_31 : (Jvm.Cond.instanceMethod ({ cls := "CheriCore$Memory", name := "slotOf", desc := "(I)I" } : Jvm.MethodName)) ∈ TB := tbm_3 (List.mem_of_getElem? (i := 31) (by decide +kernel))
theorem tb_3_32 : (Jvm.Cond.code ({ cls := "CheriCore$Memory", name := "slotOf", desc := "(I)I" } : Jvm.MethodName) prog_7_method_13_code (4 : Nat) (Option.some Jvm.ClassFile.FieldType.int)) ∈ TB := tbm_3 (List.mem_of_getElem? (i := 32) (rfl))
theorem tb_3_33 : (Jvm.Cond.methodLink "CheriCore$Memory" (74 : Nat) ({ cls := "CheriCore$Directory", name := "victim", desc := "(I)I" } : Jvm.MethodName)) ∈ TB := tbm_3 (List.mem_of_getElem? (i := 33) (by decide +kernel))
theorem tb_3_34 : (Jvm.Cond.instanceMethod ({ cls := "CheriCore$Directory", name := "victim", desc := "(I)I" } : Jvm.MethodName)) ∈ TB := tbm_3 (List.mem_of_getElem? (i := 34) (by decide +kernel))
theorem tb_3_35 : (Jvm.Cond.selects "CheriCore$Directory" ({ cls := "CheriCore$Directory", name := "victim", desc := "(I)I" } : Jvm.MethodName) ({ cls := "CheriCore$Directory", name := "victim", desc := "(I)I" } : Jvm.MethodName)) ∈ TB := tbm_3 (List.mem_of_getElem? (i := 35) (by decide +kernel))
theorem tb_3_36 : (Jvm.Cond.code ({ cls := "CheriCore$Directory", name := "victim", desc := "(I)I" } : Jvm.MethodName) prog_5_method_3_code (3 : Nat) (Option.some Jvm.ClassFile.FieldType.int)) ∈ TB := tbm_3 (List.mem_of_getElem? (i := 36) (rfl))
theorem tb_3_37 : (Jvm.Cond.methodLink "CheriCore$Memory" (77 : Nat) ({ cls := "java/lang/System", name := "arraycopy", desc := "(Ljava/lang/Object;ILjava/lang/Object;II)V" } : Jvm.MethodName)) ∈ TB := tbm_3 (List.mem_of_getElem? (i := 37) (by decide +kernel))
theorem tb_3_38 : (Jvm.Cond.static ({ cls := "java/lang/System", name := "arraycopy", desc := "(Ljava/lang/Object;ILjava/lang/Object;II)V" } : Jvm.MethodName)) ∈ TB := tbm_3 (List.mem_of_getElem? (i := 38) (by decide +kernel))
theorem tb_3_39 : (Jvm.Cond.native ({ cls := "java/lang/System", name := "arraycopy", desc := "(Ljava/lang/Object;ILjava/lang/Object;II)V" } : Jvm.MethodName)) ∈ TB := tbm_3 (List.mem_of_getElem? (i := 39) (by decide +kernel))
theorem tb_3_40 : (Jvm.Cond.methodLink "CheriCore$Memory" (83 : Nat) ({ cls := "CheriCore$TagStore", name := "bring", desc := "(I)V" } : Jvm.MethodName)) ∈ TB := tbm_3 (List.mem_of_getElem? (i := 40) (by decide +kernel))
theorem tb_3_41 : (Jvm.Cond.instanceMethod ({ cls := "CheriCore$TagStore", name := "bring", desc := "(I)V" } : Jvm.MethodName)) ∈ TB := tbm_3 (List.mem_of_getElem? (i := 41) (by decide +kernel))
theorem tb_3_42 : (Jvm.Cond.selects "CheriCore$TagStore" ({ cls := "CheriCore$TagStore", name := "bring", desc := "(I)V" } : Jvm.MethodName) ({ cls := "CheriCore$TagStore", name := "bring", desc := "(I)V" } : Jvm.MethodName)) ∈ TB := tbm_3 (List.mem_of_getElem? (i := 42) (by decide +kernel))
theorem tb_3_43 : (Jvm.Cond.code ({ cls := "CheriCore$TagStore", name := "bring", desc := "(I)V" } : Jvm.MethodName) prog_11_method_2_code (4 : Nat) (Option.none : Option Jvm.ClassFile.FieldType)) ∈ TB := tbm_3 (List.mem_of_getElem? (i := 43) (rfl))
theorem tb_3_44 : (Jvm.Cond.methodLink "CheriCore$Memory" (87 : Nat) ({ cls := "CheriCore$TagStore", name := "keep", desc := "(II)V" } : Jvm.MethodName)) ∈ TB := tbm_3 (List.mem_of_getElem? (i := 44) (by decide +kernel))
theorem tb_3_45 : (Jvm.Cond.instanceMethod ({ cls := "CheriCore$TagStore", name := "keep", desc := "(II)V" } : Jvm.MethodName)) ∈ TB := tbm_3 (List.mem_of_getElem? (i := 45) (by decide +kernel))
theorem tb_3_46 : (Jvm.Cond.selects "CheriCore$TagStore" ({ cls := "CheriCore$TagStore", name := "keep", desc := "(II)V" } : Jvm.MethodName) ({ cls := "CheriCore$TagStore", name := "keep", desc := "(II)V" } : Jvm.MethodName)) ∈ TB := tbm_3 (List.mem_of_getElem? (i := 46) (by decide +kernel))
theorem tb_3_47 : (Jvm.Cond.code ({ cls := "CheriCore$TagStore", name := "keep", desc := "(II)V" } : Jvm.MethodName) prog_11_method_4_code (5 : Nat) (Option.none : Option Jvm.ClassFile.FieldType)) ∈ TB := tbm_3 (List.mem_of_getElem? (i := 47) (rfl))
theorem tb_3_48 : (Jvm.Cond.methodLink "CheriCore$Memory" (91 : Nat) ({ cls := "CheriCore$TagStore", name := "ofLine", desc := "(I)I" } : Jvm.MethodName)) ∈ TB := tbm_3 (List.mem_of_getElem? (i := 48) (by decide +kernel))
theorem tb_3_49 : (Jvm.Cond.instanceMethod ({ cls := "CheriCore$TagStore", name := "ofLine", desc := "(I)I" } : Jvm.MethodName)) ∈ TB := tbm_3 (List.mem_of_getElem? (i := 49) (by decide +kernel))
theorem tb_3_5 : (Jvm.Cond.methodLink "java/lang/RuntimeException" (7 : Nat) ({ cls := "java/lang/Exception", name := "<init>", desc := "(Ljava/lang/String;)V" } : Jvm.MethodName)) ∈ TB := tbm_3 (List.mem_of_getElem? (i := 5) (by decide +kernel))
theorem tb_3_50 : (Jvm.Cond.selects "CheriCore$TagStore" ({ cls := "CheriCore$TagStore", name := "ofLine", desc := "(I)I" } : Jvm.MethodName) ({ cls := "CheriCore$TagStore", name := "ofLine", desc := "(I)I" } : Jvm.MethodName)) ∈ TB := tbm_3 (List.mem_of_getElem? (i := 50) (by decide +kernel))
theorem tb_3_51 : (Jvm.Cond.code ({ cls := "CheriCore$TagStore", name := "ofLine", desc := "(I)I" } : Jvm.MethodName) prog_11_method_3_code (3 : Nat) (Option.some Jvm.ClassFile.FieldType.int)) ∈ TB := tbm_3 (List.mem_of_getElem? (i := 51) (rfl))
theorem tb_3_52 : (Jvm.Cond.methodLink "CheriCore$Memory" (94 : Nat) ({ cls := "CheriCore$Directory", name := "touch", desc := "(I)V" } : Jvm.MethodName)) ∈ TB := tbm_3 (List.mem_of_getElem? (i := 52) (by decide +kernel))
theorem tb_3_53 : (Jvm.Cond.instanceMethod ({ cls := "CheriCore$Directory", name := "touch", desc := "(I)V" } : Jvm.MethodName)) ∈ TB := tbm_3 (List.mem_of_getElem? (i := 53) (by decide +kernel))
theorem tb_3_54 : (Jvm.Cond.selects "CheriCore$Directory" ({ cls := "CheriCore$Directory", name := "touch", desc := "(I)V" } : Jvm.MethodName) ({ cls := "CheriCore$Directory", name := "touch", desc := "(I)V" } : Jvm.MethodName)) ∈ TB := tbm_3 (List.mem_of_getElem? (i := 54) (by decide +kernel))
theorem tb_3_55 : (Jvm.Cond.code ({ cls := "CheriCore$Directory", name := "touch", desc := "(I)V" } : Jvm.MethodName) prog_5_method_4_code (2 : Nat) (Option.none : Option Jvm.ClassFile.FieldType)) ∈ TB := tbm_3 (List.mem_of_getElem? (i := 55) (rfl))
theorem tb_3_56 : (Jvm.Cond.methodLink "CheriCore" (71 : Nat) ({ cls := "CheriCore$Memory", name := "writeWord", desc := "(II)V" } : Jvm.MethodName)) ∈ TB := tbm_3 (List.mem_of_getElem? (i := 56) (by decide +kernel))
theorem tb_3_57 : (Jvm.Cond.instanceMethod ({ cls := "CheriCore$Memory", name := "writeWord", desc := "(II)V" } : Jvm.MethodName)) ∈ TB := tbm_3 (List.mem_of_getElem? (i := 57) (by decide +kernel))
theorem tb_3_58 : (Jvm.Cond.selects "CheriCore$Memory" ({ cls := "CheriCore$Memory", name := "writeWord", desc := "(II)V" } : Jvm.MethodName) ({ cls := "CheriCore$Memory", name := "writeWord", desc := "(II)V" } : Jvm.MethodName)) ∈ TB := tbm_3 (List.mem_of_getElem? (i := 58) (by decide +kernel))
theorem tb_3_59 : (Jvm.Cond.code ({ cls := "CheriCore$Memory", name := "writeWord", desc := "(II)V" } : Jvm.MethodName) prog_7_method_4_code (4 : Nat) (Option.none : Option Jvm.ClassFile.FieldType)) ∈ TB := tbm_3 (List.mem_of_getElem? (i := 59) (rfl))
theorem tb_3_60 : (Jvm.Cond.methodLink "CheriCore" (79 : Nat) ({ cls := "CheriCore$Pipeline", name := "squash", desc := "(I)V" } : Jvm.MethodName)) ∈ TB := tbm_3 (List.mem_of_getElem? (i := 60) (by decide +kernel))
theorem tb_3_61 : (Jvm.Cond.instanceMethod ({ cls := "CheriCore$Pipeline", name := "squash", desc := "(I)V" } : Jvm.MethodName)) ∈ TB := tbm_3 (List.mem_of_getElem? (i := 61) (by decide +kernel))
theorem tb_3_62 : (Jvm.Cond.selects "CheriCore$Pipeline" ({ cls := "CheriCore$Pipeline", name := "squash", desc := "(I)V" } : Jvm.MethodName) ({ cls := "CheriCore$Pipeline", name := "squash", desc := "(I)V" } : Jvm.MethodName)) ∈ TB := tbm_3 (List.mem_of_getElem? (i := 62) (by decide +kernel))
theorem tb_3_63 : (Jvm.Cond.code ({ cls := "CheriCore$Pipeline", name := "squash", desc := "(I)V" } : Jvm.MethodName) prog_9_method_3_code (2 : Nat) (Option.none : Option Jvm.ClassFile.FieldType)) ∈ TB := tbm_3 (List.mem_of_getElem? (i := 63) (rfl))
theorem tb_3_64 : (Jvm.Cond.methodLink "CheriCoreLaw" (62 : Nat) ({ cls := "CheriCoreLaw", name := "root", desc := "(LCheriCore;IIII[J)I" } : Jvm.MethodName)) ∈ TB := tbm_3 (List.mem_of_getElem? (i := 64) (by decide +kernel))
theorem tb_3_65 : (Jvm.Cond.static ({ cls := "CheriCoreLaw", name := "root", desc := "(LCheriCore;IIII[J)I" } : Jvm.MethodName)) ∈ TB := tbm_3 (List.mem_of_getElem? (i := 65) (by decide +kernel))
theorem tb_3_67 : (Jvm.Cond.classLink "CheriCoreLaw" (19 : Nat) "java/lang/IllegalArgumentException") ∈ TB := tbm_3 (List.mem_of_getElem? (i := 67) (by decide +kernel))
theorem tb_3_68 : (Jvm.Cond.classLink "CheriCoreLaw" (21 : Nat) "java/lang/IllegalStateException") ∈ TB := tbm_3 (List.mem_of_getElem? (i := 68) (by decide +kernel))
theorem tb_3_69 : (Jvm.Cond.methodLink "CheriCoreLaw" (15 : Nat) ({ cls := "CheriCore", name := "root", desc := "(IIII)I" } : Jvm.MethodName)) ∈ TB := tbm_3 (List.mem_of_getElem? (i := 69) (by decide +kernel))
theorem tb_3_70 : (Jvm.Cond.instanceMethod ({ cls := "CheriCore", name := "root", desc := "(IIII)I" } : Jvm.MethodName)) ∈ TB := tbm_3 (List.mem_of_getElem? (i := 70) (by decide +kernel))
theorem tb_3_71 : (Jvm.Cond.selects "CheriCore" ({ cls := "CheriCore", name := "root", desc := "(IIII)I" } : Jvm.MethodName) ({ cls := "CheriCore", name := "root", desc := "(IIII)I" } : Jvm.MethodName)) ∈ TB := tbm_3 (List.mem_of_getElem? (i := 71) (by decide +kernel))
theorem tb_3_72 : (Jvm.Cond.code ({ cls := "CheriCore", name := "root", desc := "(IIII)I" } : Jvm.MethodName) prog_1_method_3_code (8 : Nat) (Option.some Jvm.ClassFile.FieldType.int)) ∈ TB := tbm_3 (List.mem_of_getElem? (i := 72) (rfl))
theorem tb_3_74 : (Jvm.Cond.methodLink "CheriCore" (87 : Nat) ({ cls := "CheriCore", name := "fitsSpace", desc := "(IJ)Z" } : Jvm.MethodName)) ∈ TB := tbm_3 (List.mem_of_getElem? (i := 74) (by decide +kernel))
theorem tb_3_75 : (Jvm.Cond.static ({ cls := "CheriCore", name := "fitsSpace", desc := "(IJ)Z" } : Jvm.MethodName)) ∈ TB := tbm_3 (List.mem_of_getElem? (i := 75) (by decide +kernel))
theorem tb_3_76 : (Jvm.Cond.code ({ cls := "CheriCore", name := "fitsSpace", desc := "(IJ)Z" } : Jvm.MethodName) prog_1_method_15_code (3 : Nat) (Option.some Jvm.ClassFile.FieldType.boolean)) ∈ TB := tbm_3 (List.mem_of_getElem? (i := 76) (rfl))
theorem tb_3_77 : (Jvm.Cond.constantLong "CheriCore" (202 : Nat) (4294967296 : Int64)) ∈ TB := tbm_3 (List.mem_of_getElem? (i := 77) (by decide +kernel))
theorem tb_3_78 : (Jvm.Cond.constantLong "CheriCore" (105 : Nat) (4294967295 : Int64)) ∈ TB := tbm_3 (List.mem_of_getElem? (i := 78) (by decide +kernel))
theorem tb_3_79 : (Jvm.Cond.classLink "CheriCore" (91 : Nat) "java/lang/IllegalArgumentException") ∈ TB := tbm_3 (List.mem_of_getElem? (i := 79) (by decide +kernel))
theorem tb_3_80 : (Jvm.Cond.instantiable "java/lang/IllegalArgumentException" (6 : Nat)) ∈ TB := tbm_3 (List.mem_of_getElem? (i := 80) (by decide +kernel))
theorem tb_3_89 : (Jvm.Cond.methodLink "CheriCore" (95 : Nat) ({ cls := "java/lang/IllegalArgumentException", name := "<init>", desc := "(Ljava/lang/String;)V" } : Jvm.MethodName)) ∈ TB := tbm_3 (List.mem_of_getElem? (i := 89) (by decide +kernel))
theorem tb_3_92 : (Jvm.Cond.methodLink "java/lang/IllegalArgumentException" (7 : Nat) ({ cls := "java/lang/RuntimeException", name := "<init>", desc := "(Ljava/lang/String;)V" } : Jvm.MethodName)) ∈ TB := tbm_3 (List.mem_of_getElem? (i := 92) (by decide +kernel))
theorem tb_3_95 : (Jvm.Cond.classLink "CheriCore" (100 : Nat) "java/lang/IllegalStateException") ∈ TB := tbm_3 (List.mem_of_getElem? (i := 95) (by decide +kernel))
theorem tb_3_96 : (Jvm.Cond.instantiable "java/lang/IllegalStateException" (6 : Nat)) ∈ TB := tbm_3 (List.mem_of_getElem? (i := 96) (by decide +kernel))
theorem tb_4_0 : (Jvm.Cond.code ({ cls := "java/lang/Math", name := "min", desc := "(JJ)J" } : Jvm.MethodName) prog_19_method_70_code (4 : Nat) (Option.some Jvm.ClassFile.FieldType.long)) ∈ TB := tbm_4 (List.mem_of_getElem? (i := 0) (rfl))
theorem tb_4_1 : (Jvm.Cond.methodLink "CheriCore$CapabilityUnit" (147 : Nat) ({ cls := "CheriCore$Packer", name := "fit", desc := "(JJ)V" } : Jvm.MethodName)) ∈ TB := tbm_4 (List.mem_of_getElem? (i := 1) (by decide +kernel))
theorem tb_4_10 : (Jvm.Cond.instanceMethod ({ cls := "CheriCore$CapabilityUnit", name := "seal", desc := "(LCheriCore$Instruction;LCheriCore$Capability;LCheriCore$Capability;)I" } : Jvm.MethodName)) ∈ TB := tbm_4 (List.mem_of_getElem? (i := 10) (by decide +kernel))
theorem tb_4_100 : (Jvm.Cond.selects "CheriCore$BaseUnit" ({ cls := "CheriCore$BaseUnit", name := "execute", desc := "(LCheriCore$Instruction;)I" } : Jvm.MethodName) ({ cls := "CheriCore$BaseUnit", name := "execute", desc := "(LCheriCore$Instruction;)I" } : Jvm.MethodName)) ∈ TB := tbm_4 (List.mem_of_getElem? (i := 100) (by decide +kernel))
theorem tb_4_101 : (Jvm.Cond.code ({ cls := "CheriCore$BaseUnit", name := "execute", desc := "(LCheriCore$Instruction;)I" } : Jvm.MethodName) prog_2_method_2_code (2 : Nat) (Option.some Jvm.ClassFile.FieldType.int)) ∈ TB := tbm_4 (List.mem_of_getElem? (i := 101) (rfl))
theorem tb_4_102 : (Jvm.Cond.methodLink "CheriCore$BaseUnit" (28 : Nat) ({ cls := "CheriCore$BaseUnit", name := "load", desc := "(LCheriCore$Instruction;)I" } : Jvm.MethodName)) ∈ TB := tbm_4 (List.mem_of_getElem? (i := 102) (by decide +kernel))
theorem tb_4_104 : (Jvm.Cond.instanceMethod ({ cls := "CheriCore$BaseUnit", name := "load", desc := "(LCheriCore$Instruction;)I" } : Jvm.MethodName)) ∈ TB := tbm_4 (List.mem_of_getElem? (i := 104) (by decide +kernel))
theorem tb_4_105 : (Jvm.Cond.code ({ cls := "CheriCore$BaseUnit", name := "load", desc := "(LCheriCore$Instruction;)I" } : Jvm.MethodName) prog_2_method_13_code (5 : Nat) (Option.some Jvm.ClassFile.FieldType.int)) ∈ TB := tbm_4 (List.mem_of_getElem? (i := 105) (rfl))
theorem tb_4_106 : (Jvm.Cond.methodLink "CheriCore$BaseUnit" (35 : Nat) ({ cls := "CheriCore$State", name := "illegal", desc := "(LCheriCore$Instruction;)I" } : Jvm.MethodName)) ∈ TB := tbm_4 (List.mem_of_getElem? (i := 106) (by decide +kernel))
theorem tb_4_107 : (Jvm.Cond.methodLink "CheriCore$BaseUnit" (158 : Nat) ({ cls := "CheriCore$State", name := "authorityFault", desc := "(III)I" } : Jvm.MethodName)) ∈ TB := tbm_4 (List.mem_of_getElem? (i := 107) (by decide +kernel))
theorem tb_4_108 : (Jvm.Cond.methodLink "CheriCore$BaseUnit" (162 : Nat) ({ cls := "CheriCore$State", name := "placeFault", desc := "(IIII)I" } : Jvm.MethodName)) ∈ TB := tbm_4 (List.mem_of_getElem? (i := 108) (by decide +kernel))
theorem tb_4_109 : (Jvm.Cond.methodLink "CheriCore$BaseUnit" (166 : Nat) ({ cls := "CheriCore$BaseUnit", name := "loadCapability", desc := "(LCheriCore$Instruction;I)I" } : Jvm.MethodName)) ∈ TB := tbm_4 (List.mem_of_getElem? (i := 109) (by decide +kernel))
theorem tb_4_11 : (Jvm.Cond.code ({ cls := "CheriCore$CapabilityUnit", name := "seal", desc := "(LCheriCore$Instruction;LCheriCore$Capability;LCheriCore$Capability;)I" } : Jvm.MethodName) prog_4_method_7_code (5 : Nat) (Option.some Jvm.ClassFile.FieldType.int)) ∈ TB := tbm_4 (List.mem_of_getElem? (i := 11) (rfl))
theorem tb_4_111 : (Jvm.Cond.instanceMethod ({ cls := "CheriCore$BaseUnit", name := "loadCapability", desc := "(LCheriCore$Instruction;I)I" } : Jvm.MethodName)) ∈ TB := tbm_4 (List.mem_of_getElem? (i := 111) (by decide +kernel))
theorem tb_4_112 : (Jvm.Cond.code ({ cls := "CheriCore$BaseUnit", name := "loadCapability", desc := "(LCheriCore$Instruction;I)I" } : Jvm.MethodName) prog_2_method_15_code (5 : Nat) (Option.some Jvm.ClassFile.FieldType.int)) ∈ TB := tbm_4 (List.mem_of_getElem? (i := 112) (rfl))
theorem tb_4_113 : (Jvm.Cond.methodLink "CheriCore$BaseUnit" (154 : Nat) ({ cls := "CheriCore$Capability", name := "may", desc := "(I)Z" } : Jvm.MethodName)) ∈ TB := tbm_4 (List.mem_of_getElem? (i := 113) (by decide +kernel))
theorem tb_4_114 : (Jvm.Cond.methodLink "CheriCore$BaseUnit" (183 : Nat) ({ cls := "CheriCore$Memory", name := "readTag", desc := "(I)Z" } : Jvm.MethodName)) ∈ TB := tbm_4 (List.mem_of_getElem? (i := 114) (by decide +kernel))
theorem tb_4_115 : (Jvm.Cond.instanceMethod ({ cls := "CheriCore$Memory", name := "readTag", desc := "(I)Z" } : Jvm.MethodName)) ∈ TB := tbm_4 (List.mem_of_getElem? (i := 115) (by decide +kernel))
theorem tb_4_116 : (Jvm.Cond.selects "CheriCore$Memory" ({ cls := "CheriCore$Memory", name := "readTag", desc := "(I)Z" } : Jvm.MethodName) ({ cls := "CheriCore$Memory", name := "readTag", desc := "(I)Z" } : Jvm.MethodName)) ∈ TB := tbm_4 (List.mem_of_getElem? (i := 116) (by decide +kernel))
theorem tb_4_117 : (Jvm.Cond.code ({ cls := "CheriCore$Memory", name := "readTag", desc := "(I)Z" } : Jvm.MethodName) prog_7_method_3_code (2 : Nat) (Option.some Jvm.ClassFile.FieldType.boolean)) ∈ TB := tbm_4 (List.mem_of_getElem? (i := 117) (rfl))
theorem tb_4_118 : (Jvm.Cond.methodLink "CheriCore$BaseUnit" (177 : Nat) ({ cls := "CheriCore$Memory", name := "readWord", desc := "(I)I" } : Jvm.MethodName)) ∈ TB := tbm_4 (List.mem_of_getElem? (i := 118) (by decide +kernel))
theorem tb_4_119 : (Jvm.Cond.constant "CheriCore$BaseUnit" (186 : Nat) (1000194 : Int32)) ∈ TB := tbm_4 (List.mem_of_getElem? (i := 119) (by decide +kernel))
theorem tb_4_12 : (Jvm.Cond.methodLink "CheriCore$CapabilityUnit" (168 : Nat) ({ cls := "CheriCore$CapabilityUnit", name := "mayUseTypes", desc := "(LCheriCore$Capability;I)Z" } : Jvm.MethodName)) ∈ TB := tbm_4 (List.mem_of_getElem? (i := 12) (by decide +kernel))
theorem tb_4_120 : (Jvm.Cond.methodLink "CheriCore$BaseUnit" (187 : Nat) ({ cls := "CheriCore$Capability", name := "define", desc := "(ZII)V" } : Jvm.MethodName)) ∈ TB := tbm_4 (List.mem_of_getElem? (i := 120) (by decide +kernel))
theorem tb_4_121 : (Jvm.Cond.methodLink "CheriCore$BaseUnit" (91 : Nat) ({ cls := "CheriCore$State", name := "answer", desc := "(I)I" } : Jvm.MethodName)) ∈ TB := tbm_4 (List.mem_of_getElem? (i := 121) (by decide +kernel))
theorem tb_4_122 : (Jvm.Cond.methodLink "CheriCore$BaseUnit" (170 : Nat) ({ cls := "CheriCore$BaseUnit", name := "loaded", desc := "(II)I" } : Jvm.MethodName)) ∈ TB := tbm_4 (List.mem_of_getElem? (i := 122) (by decide +kernel))
theorem tb_4_124 : (Jvm.Cond.instanceMethod ({ cls := "CheriCore$BaseUnit", name := "loaded", desc := "(II)I" } : Jvm.MethodName)) ∈ TB := tbm_4 (List.mem_of_getElem? (i := 124) (by decide +kernel))
theorem tb_4_125 : (Jvm.Cond.code ({ cls := "CheriCore$BaseUnit", name := "loaded", desc := "(II)I" } : Jvm.MethodName) prog_2_method_14_code (4 : Nat) (Option.some Jvm.ClassFile.FieldType.int)) ∈ TB := tbm_4 (List.mem_of_getElem? (i := 125) (rfl))
theorem tb_4_126 : (Jvm.Cond.constant "CheriCore$BaseUnit" (182 : Nat) (65535 : Int32)) ∈ TB := tbm_4 (List.mem_of_getElem? (i := 126) (by decide +kernel))
theorem tb_4_127 : (Jvm.Cond.methodLink "CheriCore$BaseUnit" (58 : Nat) ({ cls := "CheriCore$State", name := "answerNumber", desc := "(II)I" } : Jvm.MethodName)) ∈ TB := tbm_4 (List.mem_of_getElem? (i := 127) (by decide +kernel))
theorem tb_4_128 : (Jvm.Cond.methodLink "CheriCore$BaseUnit" (40 : Nat) ({ cls := "CheriCore$BaseUnit", name := "operateImmediate", desc := "(LCheriCore$Instruction;)I" } : Jvm.MethodName)) ∈ TB := tbm_4 (List.mem_of_getElem? (i := 128) (by decide +kernel))
theorem tb_4_13 : (Jvm.Cond.static ({ cls := "CheriCore$CapabilityUnit", name := "mayUseTypes", desc := "(LCheriCore$Capability;I)Z" } : Jvm.MethodName)) ∈ TB := tbm_4 (List.mem_of_getElem? (i := 13) (by decide +kernel))
theorem tb_4_130 : (Jvm.Cond.instanceMethod ({ cls := "CheriCore$BaseUnit", name := "operateImmediate", desc := "(LCheriCore$Instruction;)I" } : Jvm.MethodName)) ∈ TB := tbm_4 (List.mem_of_getElem? (i := 130) (by decide +kernel))
theorem tb_4_131 : (Jvm.Cond.code ({ cls := "CheriCore$BaseUnit", name := "operateImmediate", desc := "(LCheriCore$Instruction;)I" } : Jvm.MethodName) prog_2_method_5_code (5 : Nat) (Option.some Jvm.ClassFile.FieldType.int)) ∈ TB := tbm_4 (List.mem_of_getElem? (i := 131) (rfl))
theorem tb_4_132 : (Jvm.Cond.methodLink "CheriCore$BaseUnit" (108 : Nat) ({ cls := "CheriCore$BaseUnit", name := "computed", desc := "(IZII)I" } : Jvm.MethodName)) ∈ TB := tbm_4 (List.mem_of_getElem? (i := 132) (by decide +kernel))
theorem tb_4_133 : (Jvm.Cond.static ({ cls := "CheriCore$BaseUnit", name := "computed", desc := "(IZII)I" } : Jvm.MethodName)) ∈ TB := tbm_4 (List.mem_of_getElem? (i := 133) (by decide +kernel))
theorem tb_4_134 : (Jvm.Cond.code ({ cls := "CheriCore$BaseUnit", name := "computed", desc := "(IZII)I" } : Jvm.MethodName) prog_2_method_6_code (4 : Nat) (Option.some Jvm.ClassFile.FieldType.int)) ∈ TB := tbm_4 (List.mem_of_getElem? (i := 134) (rfl))
theorem tb_4_135 : (Jvm.Cond.methodLink "CheriCore$BaseUnit" (112 : Nat) ({ cls := "java/lang/Integer", name := "compareUnsigned", desc := "(II)I" } : Jvm.MethodName)) ∈ TB := tbm_4 (List.mem_of_getElem? (i := 135) (by decide +kernel))
theorem tb_4_136 : (Jvm.Cond.static ({ cls := "java/lang/Integer", name := "compareUnsigned", desc := "(II)I" } : Jvm.MethodName)) ∈ TB := tbm_4 (List.mem_of_getElem? (i := 136) (by decide +kernel))
theorem tb_4_137 : (Jvm.Cond.code ({ cls := "java/lang/Integer", name := "compareUnsigned", desc := "(II)I" } : Jvm.MethodName) prog_18_method_41_code (2 : Nat) (Option.some Jvm.ClassFile.FieldType.int)) ∈ TB := tbm_4 (List.mem_of_getElem? (i := 137) (rfl))
theorem tb_4_138 : (Jvm.Cond.constant "java/lang/Integer" (127 : Nat) (-2147483648 : Int32)) ∈ TB := tbm_4 (List.mem_of_getElem? (i := 138) (by decide +kernel))
theorem tb_4_139 : (Jvm.Cond.methodLink "java/lang/Integer" (259 : Nat) ({ cls := "java/lang/Integer", name := "compare", desc := "(II)I" } : Jvm.MethodName)) ∈ TB := tbm_4 (List.mem_of_getElem? (i := 139) (by decide +kernel))
theorem tb_4_14 : (Jvm.Cond.code ({ cls := "CheriCore$CapabilityUnit", name := "mayUseTypes", desc := "(LCheriCore$Capability;I)Z" } : Jvm.MethodName) prog_4_method_9_code (3 : Nat) (Option.some Jvm.ClassFile.FieldType.boolean)) ∈ TB := tbm_4 (List.mem_of_getElem? (i := 14) (rfl))
theorem tb_4_140 : (Jvm.Cond.static ({ cls := "java/lang/Integer", name := "compare", desc := "(II)I" } : Jvm.MethodName)) ∈ TB := tbm_4 (List.mem_of_getElem? (i := 140) (by decide +kernel))
theorem tb_4_141 : (Jvm.Cond.code ({ cls := "java/lang/Integer", name := "compare", desc := "(II)I" } : Jvm.MethodName) prog_18_method_40_code (2 : Nat) (Option.some Jvm.ClassFile.FieldType.int)) ∈ TB := tbm_4 (List.mem_of_getElem? (i := 141) (rfl))
theorem tb_4_142 : (Jvm.Cond.methodLink "CheriCore$BaseUnit" (43 : Nat) ({ cls := "CheriCore$BaseUnit", name := "addToPcc", desc := "(LCheriCore$Instruction;)I" } : Jvm.MethodName)) ∈ TB := tbm_4 (List.mem_of_getElem? (i := 142) (by decide +kernel))
theorem tb_4_144 : (Jvm.Cond.instanceMethod ({ cls := "CheriCore$BaseUnit", name := "addToPcc", desc := "(LCheriCore$Instruction;)I" } : Jvm.MethodName)) ∈ TB := tbm_4 (List.mem_of_getElem? (i := 144) (by decide +kernel))
theorem tb_4_145 : (Jvm.Cond.code ({ cls := "CheriCore$BaseUnit", name := "addToPcc", desc := "(LCheriCore$Instruction;)I" } : Jvm.MethodName) prog_2_method_3_code (2 : Nat) (Option.some Jvm.ClassFile.FieldType.int)) ∈ TB := tbm_4 (List.mem_of_getElem? (i := 145) (rfl))
theorem tb_4_146 : (Jvm.Cond.methodLink "CheriCore$BaseUnit" (80 : Nat) ({ cls := "CheriCore$Capability", name := "become", desc := "(LCheriCore$Capability;)V" } : Jvm.MethodName)) ∈ TB := tbm_4 (List.mem_of_getElem? (i := 146) (by decide +kernel))
theorem tb_4_147 : (Jvm.Cond.methodLink "CheriCore$BaseUnit" (87 : Nat) ({ cls := "CheriCore$Capability", name := "moveTo", desc := "(I)V" } : Jvm.MethodName)) ∈ TB := tbm_4 (List.mem_of_getElem? (i := 147) (by decide +kernel))
theorem tb_4_148 : (Jvm.Cond.methodLink "CheriCore$BaseUnit" (46 : Nat) ({ cls := "CheriCore$BaseUnit", name := "store", desc := "(LCheriCore$Instruction;)I" } : Jvm.MethodName)) ∈ TB := tbm_4 (List.mem_of_getElem? (i := 148) (by decide +kernel))
theorem tb_4_15 : (Jvm.Cond.methodLink "CheriCore$CapabilityUnit" (172 : Nat) ({ cls := "CheriCore$Capability", name := "setType", desc := "(I)V" } : Jvm.MethodName)) ∈ TB := tbm_4 (List.mem_of_getElem? (i := 15) (by decide +kernel))
theorem tb_4_150 : (Jvm.Cond.instanceMethod ({ cls := "CheriCore$BaseUnit", name := "store", desc := "(LCheriCore$Instruction;)I" } : Jvm.MethodName)) ∈ TB := tbm_4 (List.mem_of_getElem? (i := 150) (by decide +kernel))
theorem tb_4_151 : (Jvm.Cond.code ({ cls := "CheriCore$BaseUnit", name := "store", desc := "(LCheriCore$Instruction;)I" } : Jvm.MethodName) prog_2_method_16_code (6 : Nat) (Option.some Jvm.ClassFile.FieldType.int)) ∈ TB := tbm_4 (List.mem_of_getElem? (i := 151) (rfl))
theorem tb_4_152 : (Jvm.Cond.methodLink "CheriCore$BaseUnit" (191 : Nat) ({ cls := "CheriCore$BaseUnit", name := "capabilityStoreFault", desc := "(LCheriCore$Instruction;)I" } : Jvm.MethodName)) ∈ TB := tbm_4 (List.mem_of_getElem? (i := 152) (by decide +kernel))
theorem tb_4_154 : (Jvm.Cond.instanceMethod ({ cls := "CheriCore$BaseUnit", name := "capabilityStoreFault", desc := "(LCheriCore$Instruction;)I" } : Jvm.MethodName)) ∈ TB := tbm_4 (List.mem_of_getElem? (i := 154) (by decide +kernel))
theorem tb_4_155 : (Jvm.Cond.code ({ cls := "CheriCore$BaseUnit", name := "capabilityStoreFault", desc := "(LCheriCore$Instruction;)I" } : Jvm.MethodName) prog_2_method_17_code (4 : Nat) (Option.some Jvm.ClassFile.FieldType.int)) ∈ TB := tbm_4 (List.mem_of_getElem? (i := 155) (rfl))
theorem tb_4_156 : (Jvm.Cond.methodLink "CheriCore$BaseUnit" (133 : Nat) ({ cls := "CheriCore$State", name := "capabilityFault", desc := "(II)I" } : Jvm.MethodName)) ∈ TB := tbm_4 (List.mem_of_getElem? (i := 156) (by decide +kernel))
theorem tb_4_157 : (Jvm.Cond.methodLink "CheriCore$BaseUnit" (194 : Nat) ({ cls := "CheriCore$BaseUnit", name := "storeCapability", desc := "(ILCheriCore$Capability;)V" } : Jvm.MethodName)) ∈ TB := tbm_4 (List.mem_of_getElem? (i := 157) (by decide +kernel))
theorem tb_4_159 : (Jvm.Cond.instanceMethod ({ cls := "CheriCore$BaseUnit", name := "storeCapability", desc := "(ILCheriCore$Capability;)V" } : Jvm.MethodName)) ∈ TB := tbm_4 (List.mem_of_getElem? (i := 159) (by decide +kernel))
theorem tb_4_16 : (Jvm.Cond.instanceMethod ({ cls := "CheriCore$Capability", name := "setType", desc := "(I)V" } : Jvm.MethodName)) ∈ TB := tbm_4 (List.mem_of_getElem? (i := 16) (by decide +kernel))
theorem tb_4_160 : (Jvm.Cond.code ({ cls := "CheriCore$BaseUnit", name := "storeCapability", desc := "(ILCheriCore$Capability;)V" } : Jvm.MethodName) prog_2_method_18_code (3 : Nat) (Option.none : Option Jvm.ClassFile.FieldType)) ∈ TB := tbm_4 (List.mem_of_getElem? (i := 160) (rfl))
theorem tb_4_161 : (Jvm.Cond.methodLink "CheriCore$BaseUnit" (202 : Nat) ({ cls := "CheriCore$Memory", name := "writeWord", desc := "(II)V" } : Jvm.MethodName)) ∈ TB := tbm_4 (List.mem_of_getElem? (i := 161) (by decide +kernel))
theorem tb_4_162 : (Jvm.Cond.methodLink "CheriCore$BaseUnit" (206 : Nat) ({ cls := "CheriCore$Capability", name := "toldMeta", desc := "()I" } : Jvm.MethodName)) ∈ TB := tbm_4 (List.mem_of_getElem? (i := 162) (by decide +kernel))
theorem tb_4_163 : (Jvm.Cond.methodLink "CheriCore$BaseUnit" (209 : Nat) ({ cls := "CheriCore$Memory", name := "writeTag", desc := "(I)V" } : Jvm.MethodName)) ∈ TB := tbm_4 (List.mem_of_getElem? (i := 163) (by decide +kernel))
theorem tb_4_164 : (Jvm.Cond.instanceMethod ({ cls := "CheriCore$Memory", name := "writeTag", desc := "(I)V" } : Jvm.MethodName)) ∈ TB := tbm_4 (List.mem_of_getElem? (i := 164) (by decide +kernel))
theorem tb_4_165 : (Jvm.Cond.selects "CheriCore$Memory" ({ cls := "CheriCore$Memory", name := "writeTag", desc := "(I)V" } : Jvm.MethodName) ({ cls := "CheriCore$Memory", name := "writeTag", desc := "(I)V" } : Jvm.MethodName)) ∈ TB := tbm_4 (List.mem_of_getElem? (i := 165) (by decide +kernel))
theorem tb_4_166 : (Jvm.Cond.code ({ cls := "CheriCore$Memory", name := "writeTag", desc := "(I)V" } : Jvm.MethodName) prog_7_method_5_code (3 : Nat) (Option.none : Option Jvm.ClassFile.FieldType)) ∈ TB := tbm_4 (List.mem_of_getElem? (i := 166) (rfl))
theorem tb_4_167 : (Jvm.Cond.methodLink "CheriCore$BaseUnit" (216 : Nat) ({ cls := "CheriCore$Pipeline", name := "squash", desc := "(I)V" } : Jvm.MethodName)) ∈ TB := tbm_4 (List.mem_of_getElem? (i := 167) (by decide +kernel))
theorem tb_4_168 : (Jvm.Cond.methodLink "CheriCore$BaseUnit" (198 : Nat) ({ cls := "CheriCore$BaseUnit", name := "storeNumber", desc := "(III)V" } : Jvm.MethodName)) ∈ TB := tbm_4 (List.mem_of_getElem? (i := 168) (by decide +kernel))
theorem tb_4_17 : (Jvm.Cond.selects "CheriCore$Capability" ({ cls := "CheriCore$Capability", name := "setType", desc := "(I)V" } : Jvm.MethodName) ({ cls := "CheriCore$Capability", name := "setType", desc := "(I)V" } : Jvm.MethodName)) ∈ TB := tbm_4 (List.mem_of_getElem? (i := 17) (by decide +kernel))
theorem tb_4_170 : (Jvm.Cond.instanceMethod ({ cls := "CheriCore$BaseUnit", name := "storeNumber", desc := "(III)V" } : Jvm.MethodName)) ∈ TB := tbm_4 (List.mem_of_getElem? (i := 170) (by decide +kernel))
theorem tb_4_171 : (Jvm.Cond.code ({ cls := "CheriCore$BaseUnit", name := "storeNumber", desc := "(III)V" } : Jvm.MethodName) prog_2_method_19_code (7 : Nat) (Option.none : Option Jvm.ClassFile.FieldType)) ∈ TB := tbm_4 (List.mem_of_getElem? (i := 171) (rfl))
theorem tb_4_172 : (Jvm.Cond.methodLink "CheriCore$BaseUnit" (49 : Nat) ({ cls := "CheriCore$BaseUnit", name := "operate", desc := "(LCheriCore$Instruction;)I" } : Jvm.MethodName)) ∈ TB := tbm_4 (List.mem_of_getElem? (i := 172) (by decide +kernel))
theorem tb_4_174 : (Jvm.Cond.instanceMethod ({ cls := "CheriCore$BaseUnit", name := "operate", desc := "(LCheriCore$Instruction;)I" } : Jvm.MethodName)) ∈ TB := tbm_4 (List.mem_of_getElem? (i := 174) (by decide +kernel))
theorem tb_4_175 : (Jvm.Cond.code ({ cls := "CheriCore$BaseUnit", name := "operate", desc := "(LCheriCore$Instruction;)I" } : Jvm.MethodName) prog_2_method_4_code (4 : Nat) (Option.some Jvm.ClassFile.FieldType.int)) ∈ TB := tbm_4 (List.mem_of_getElem? (i := 175) (rfl))
theorem tb_4_176 : (Jvm.Cond.methodLink "CheriCore$BaseUnit" (62 : Nat) ({ cls := "CheriCore$BaseUnit", name := "branch", desc := "(LCheriCore$Instruction;)I" } : Jvm.MethodName)) ∈ TB := tbm_4 (List.mem_of_getElem? (i := 176) (by decide +kernel))
theorem tb_4_178 : (Jvm.Cond.instanceMethod ({ cls := "CheriCore$BaseUnit", name := "branch", desc := "(LCheriCore$Instruction;)I" } : Jvm.MethodName)) ∈ TB := tbm_4 (List.mem_of_getElem? (i := 178) (by decide +kernel))
theorem tb_4_179 : (Jvm.Cond.code ({ cls := "CheriCore$BaseUnit", name := "branch", desc := "(LCheriCore$Instruction;)I" } : Jvm.MethodName) prog_2_method_7_code (6 : Nat) (Option.some Jvm.ClassFile.FieldType.int)) ∈ TB := tbm_4 (List.mem_of_getElem? (i := 179) (rfl))
theorem tb_4_18 : (Jvm.Cond.code ({ cls := "CheriCore$Capability", name := "setType", desc := "(I)V" } : Jvm.MethodName) prog_3_method_6_code (2 : Nat) (Option.none : Option Jvm.ClassFile.FieldType)) ∈ TB := tbm_4 (List.mem_of_getElem? (i := 18) (rfl))
theorem tb_4_180 : (Jvm.Cond.methodLink "CheriCore$BaseUnit" (117 : Nat) ({ cls := "CheriCore$BaseUnit", name := "isTaken", desc := "(III)Z" } : Jvm.MethodName)) ∈ TB := tbm_4 (List.mem_of_getElem? (i := 180) (by decide +kernel))
theorem tb_4_181 : (Jvm.Cond.static ({ cls := "CheriCore$BaseUnit", name := "isTaken", desc := "(III)Z" } : Jvm.MethodName)) ∈ TB := tbm_4 (List.mem_of_getElem? (i := 181) (by decide +kernel))
theorem tb_4_182 : (Jvm.Cond.code ({ cls := "CheriCore$BaseUnit", name := "isTaken", desc := "(III)Z" } : Jvm.MethodName) prog_2_method_8_code (3 : Nat) (Option.some Jvm.ClassFile.FieldType.boolean)) ∈ TB := tbm_4 (List.mem_of_getElem? (i := 182) (rfl))
theorem tb_4_183 : (Jvm.Cond.methodLink "CheriCore$BaseUnit" (121 : Nat) ({ cls := "CheriCore$BaseUnit", name := "jumpFault", desc := "(I)I" } : Jvm.MethodName)) ∈ TB := tbm_4 (List.mem_of_getElem? (i := 183) (by decide +kernel))
theorem tb_4_185 : (Jvm.Cond.instanceMethod ({ cls := "CheriCore$BaseUnit", name := "jumpFault", desc := "(I)I" } : Jvm.MethodName)) ∈ TB := tbm_4 (List.mem_of_getElem? (i := 185) (by decide +kernel))
theorem tb_4_186 : (Jvm.Cond.code ({ cls := "CheriCore$BaseUnit", name := "jumpFault", desc := "(I)I" } : Jvm.MethodName) prog_2_method_10_code (2 : Nat) (Option.some Jvm.ClassFile.FieldType.int)) ∈ TB := tbm_4 (List.mem_of_getElem? (i := 186) (rfl))
theorem tb_4_187 : (Jvm.Cond.constantLong "CheriCore$BaseUnit" (127 : Nat) (4 : Int64)) ∈ TB := tbm_4 (List.mem_of_getElem? (i := 187) (by decide +kernel))
theorem tb_4_188 : (Jvm.Cond.methodLink "CheriCore$BaseUnit" (129 : Nat) ({ cls := "CheriCore$Capability", name := "covers", desc := "(IJ)Z" } : Jvm.MethodName)) ∈ TB := tbm_4 (List.mem_of_getElem? (i := 188) (by decide +kernel))
theorem tb_4_189 : (Jvm.Cond.methodLink "CheriCore$BaseUnit" (136 : Nat) ({ cls := "CheriCore$State", name := "fault", desc := "(II)I" } : Jvm.MethodName)) ∈ TB := tbm_4 (List.mem_of_getElem? (i := 189) (by decide +kernel))
theorem tb_4_19 : (Jvm.Cond.constant "CheriCore$Capability" (39 : Nat) (-983041 : Int32)) ∈ TB := tbm_4 (List.mem_of_getElem? (i := 19) (by decide +kernel))
theorem tb_4_190 : (Jvm.Cond.methodLink "CheriCore$BaseUnit" (65 : Nat) ({ cls := "CheriCore$BaseUnit", name := "jumpByRegister", desc := "(LCheriCore$Instruction;)I" } : Jvm.MethodName)) ∈ TB := tbm_4 (List.mem_of_getElem? (i := 190) (by decide +kernel))
theorem tb_4_192 : (Jvm.Cond.instanceMethod ({ cls := "CheriCore$BaseUnit", name := "jumpByRegister", desc := "(LCheriCore$Instruction;)I" } : Jvm.MethodName)) ∈ TB := tbm_4 (List.mem_of_getElem? (i := 192) (by decide +kernel))
theorem tb_4_193 : (Jvm.Cond.code ({ cls := "CheriCore$BaseUnit", name := "jumpByRegister", desc := "(LCheriCore$Instruction;)I" } : Jvm.MethodName) prog_2_method_11_code (5 : Nat) (Option.some Jvm.ClassFile.FieldType.int)) ∈ TB := tbm_4 (List.mem_of_getElem? (i := 193) (rfl))
theorem tb_4_194 : (Jvm.Cond.methodLink "CheriCore$BaseUnit" (139 : Nat) ({ cls := "CheriCore$BaseUnit", name := "wrongOfJump", desc := "(LCheriCore$Capability;II)I" } : Jvm.MethodName)) ∈ TB := tbm_4 (List.mem_of_getElem? (i := 194) (by decide +kernel))
theorem tb_4_195 : (Jvm.Cond.static ({ cls := "CheriCore$BaseUnit", name := "wrongOfJump", desc := "(LCheriCore$Capability;II)I" } : Jvm.MethodName)) ∈ TB := tbm_4 (List.mem_of_getElem? (i := 195) (by decide +kernel))
theorem tb_4_196 : (Jvm.Cond.code ({ cls := "CheriCore$BaseUnit", name := "wrongOfJump", desc := "(LCheriCore$Capability;II)I" } : Jvm.MethodName) prog_2_method_12_code (3 : Nat) (Option.some Jvm.ClassFile.FieldType.int)) ∈ TB := tbm_4 (List.mem_of_getElem? (i := 196) (rfl))
theorem tb_4_197 : (Jvm.Cond.methodLink "CheriCore$BaseUnit" (150 : Nat) ({ cls := "CheriCore$Capability", name := "type", desc := "()I" } : Jvm.MethodName)) ∈ TB := tbm_4 (List.mem_of_getElem? (i := 197) (by decide +kernel))
theorem tb_4_198 : (Jvm.Cond.methodLink "CheriCore$BaseUnit" (124 : Nat) ({ cls := "CheriCore$State", name := "link", desc := "(I)V" } : Jvm.MethodName)) ∈ TB := tbm_4 (List.mem_of_getElem? (i := 198) (by decide +kernel))
theorem tb_4_199 : (Jvm.Cond.instanceMethod ({ cls := "CheriCore$State", name := "link", desc := "(I)V" } : Jvm.MethodName)) ∈ TB := tbm_4 (List.mem_of_getElem? (i := 199) (by decide +kernel))
theorem tb_4_2 : (Jvm.Cond.methodLink "CheriCore$CapabilityUnit" (151 : Nat) ({ cls := "CheriCore$Capability", name := "isOpen", desc := "()Z" } : Jvm.MethodName)) ∈ TB := tbm_4 (List.mem_of_getElem? (i := 2) (by decide +kernel))
theorem tb_4_20 : (Jvm.Cond.methodLink "CheriCore$CapabilityUnit" (76 : Nat) ({ cls := "CheriCore$CapabilityUnit", name := "unseal", desc := "(LCheriCore$Instruction;LCheriCore$Capability;LCheriCore$Capability;)I" } : Jvm.MethodName)) ∈ TB := tbm_4 (List.mem_of_getElem? (i := 20) (by decide +kernel))
theorem tb_4_200 : (Jvm.Cond.selects "CheriCore$State" ({ cls := "CheriCore$State", name := "link", desc := "(I)V" } : Jvm.MethodName) ({ cls := "CheriCore$State", name := "link", desc := "(I)V" } : Jvm.MethodName)) ∈ TB := tbm_4 (List.mem_of_getElem? (i := 200) (by decide +kernel))
theorem tb_4_201 : (Jvm.Cond.code ({ cls := "CheriCore$State", name := "link", desc := "(I)V" } : Jvm.MethodName) prog_10_method_8_code (2 : Nat) (Option.none : Option Jvm.ClassFile.FieldType)) ∈ TB := tbm_4 (List.mem_of_getElem? (i := 201) (rfl))
theorem tb_4_202 : (Jvm.Cond.methodLink "CheriCore$State" (88 : Nat) ({ cls := "CheriCore$Capability", name := "moveTo", desc := "(I)V" } : Jvm.MethodName)) ∈ TB := tbm_4 (List.mem_of_getElem? (i := 202) (by decide +kernel))
theorem tb_4_203 : (Jvm.Cond.methodLink "CheriCore$State" (92 : Nat) ({ cls := "CheriCore$Capability", name := "setType", desc := "(I)V" } : Jvm.MethodName)) ∈ TB := tbm_4 (List.mem_of_getElem? (i := 203) (by decide +kernel))
theorem tb_4_204 : (Jvm.Cond.methodLink "CheriCore$State" (95 : Nat) ({ cls := "CheriCore$State", name := "answer", desc := "(I)I" } : Jvm.MethodName)) ∈ TB := tbm_4 (List.mem_of_getElem? (i := 204) (by decide +kernel))
theorem tb_4_205 : (Jvm.Cond.methodLink "CheriCore$BaseUnit" (143 : Nat) ({ cls := "CheriCore$Capability", name := "setType", desc := "(I)V" } : Jvm.MethodName)) ∈ TB := tbm_4 (List.mem_of_getElem? (i := 205) (by decide +kernel))
theorem tb_4_206 : (Jvm.Cond.methodLink "CheriCore$BaseUnit" (68 : Nat) ({ cls := "CheriCore$BaseUnit", name := "jump", desc := "(LCheriCore$Instruction;)I" } : Jvm.MethodName)) ∈ TB := tbm_4 (List.mem_of_getElem? (i := 206) (by decide +kernel))
theorem tb_4_208 : (Jvm.Cond.instanceMethod ({ cls := "CheriCore$BaseUnit", name := "jump", desc := "(LCheriCore$Instruction;)I" } : Jvm.MethodName)) ∈ TB := tbm_4 (List.mem_of_getElem? (i := 208) (by decide +kernel))
theorem tb_4_209 : (Jvm.Cond.code ({ cls := "CheriCore$BaseUnit", name := "jump", desc := "(LCheriCore$Instruction;)I" } : Jvm.MethodName) prog_2_method_9_code (4 : Nat) (Option.some Jvm.ClassFile.FieldType.int)) ∈ TB := tbm_4 (List.mem_of_getElem? (i := 209) (rfl))
theorem tb_4_210 : (Jvm.Cond.methodLink "CheriCore$BaseUnit" (71 : Nat) ({ cls := "CheriCore$BaseUnit", name := "system", desc := "(LCheriCore$Instruction;)I" } : Jvm.MethodName)) ∈ TB := tbm_4 (List.mem_of_getElem? (i := 210) (by decide +kernel))
theorem tb_4_212 : (Jvm.Cond.instanceMethod ({ cls := "CheriCore$BaseUnit", name := "system", desc := "(LCheriCore$Instruction;)I" } : Jvm.MethodName)) ∈ TB := tbm_4 (List.mem_of_getElem? (i := 212) (by decide +kernel))
theorem tb_4_213 : (Jvm.Cond.code ({ cls := "CheriCore$BaseUnit", name := "system", desc := "(LCheriCore$Instruction;)I" } : Jvm.MethodName) prog_2_method_20_code (4 : Nat) (Option.some Jvm.ClassFile.FieldType.int)) ∈ TB := tbm_4 (List.mem_of_getElem? (i := 213) (rfl))
theorem tb_4_214 : (Jvm.Cond.constant "CheriCore$BaseUnit" (224 : Nat) (1048691 : Int32)) ∈ TB := tbm_4 (List.mem_of_getElem? (i := 214) (by decide +kernel))
theorem tb_4_215 : (Jvm.Cond.constant "CheriCore$BaseUnit" (225 : Nat) (807403635 : Int32)) ∈ TB := tbm_4 (List.mem_of_getElem? (i := 215) (by decide +kernel))
theorem tb_4_216 : (Jvm.Cond.methodLink "CheriCore$BaseUnit" (226 : Nat) ({ cls := "CheriCore$BaseUnit", name := "changeCsr", desc := "(LCheriCore$Instruction;Z)I" } : Jvm.MethodName)) ∈ TB := tbm_4 (List.mem_of_getElem? (i := 216) (by decide +kernel))
theorem tb_4_218 : (Jvm.Cond.instanceMethod ({ cls := "CheriCore$BaseUnit", name := "changeCsr", desc := "(LCheriCore$Instruction;Z)I" } : Jvm.MethodName)) ∈ TB := tbm_4 (List.mem_of_getElem? (i := 218) (by decide +kernel))
theorem tb_4_219 : (Jvm.Cond.code ({ cls := "CheriCore$BaseUnit", name := "changeCsr", desc := "(LCheriCore$Instruction;Z)I" } : Jvm.MethodName) prog_2_method_22_code (6 : Nat) (Option.some Jvm.ClassFile.FieldType.int)) ∈ TB := tbm_4 (List.mem_of_getElem? (i := 219) (rfl))
theorem tb_4_22 : (Jvm.Cond.instanceMethod ({ cls := "CheriCore$CapabilityUnit", name := "unseal", desc := "(LCheriCore$Instruction;LCheriCore$Capability;LCheriCore$Capability;)I" } : Jvm.MethodName)) ∈ TB := tbm_4 (List.mem_of_getElem? (i := 22) (by decide +kernel))
theorem tb_4_220 : (Jvm.Cond.methodLink "CheriCore$BaseUnit" (230 : Nat) ({ cls := "CheriCore$BaseUnit", name := "returnFromTrap", desc := "()I" } : Jvm.MethodName)) ∈ TB := tbm_4 (List.mem_of_getElem? (i := 220) (by decide +kernel))
theorem tb_4_222 : (Jvm.Cond.instanceMethod ({ cls := "CheriCore$BaseUnit", name := "returnFromTrap", desc := "()I" } : Jvm.MethodName)) ∈ TB := tbm_4 (List.mem_of_getElem? (i := 222) (by decide +kernel))
theorem tb_4_223 : (Jvm.Cond.code ({ cls := "CheriCore$BaseUnit", name := "returnFromTrap", desc := "()I" } : Jvm.MethodName) prog_2_method_21_code (1 : Nat) (Option.some Jvm.ClassFile.FieldType.int)) ∈ TB := tbm_4 (List.mem_of_getElem? (i := 223) (rfl))
theorem tb_4_224 : (Jvm.Cond.methodLink "CheriCore" (227 : Nat) ({ cls := "CheriCore", name := "takeTrap", desc := "(I)V" } : Jvm.MethodName)) ∈ TB := tbm_4 (List.mem_of_getElem? (i := 224) (by decide +kernel))
theorem tb_4_226 : (Jvm.Cond.instanceMethod ({ cls := "CheriCore", name := "takeTrap", desc := "(I)V" } : Jvm.MethodName)) ∈ TB := tbm_4 (List.mem_of_getElem? (i := 226) (by decide +kernel))
theorem tb_4_227 : (Jvm.Cond.code ({ cls := "CheriCore", name := "takeTrap", desc := "(I)V" } : Jvm.MethodName) prog_1_method_18_code (2 : Nat) (Option.none : Option Jvm.ClassFile.FieldType)) ∈ TB := tbm_4 (List.mem_of_getElem? (i := 227) (rfl))
theorem tb_4_228 : (Jvm.Cond.methodLink "CheriCore" (230 : Nat) ({ cls := "CheriCore$Capability", name := "moveTo", desc := "(I)V" } : Jvm.MethodName)) ∈ TB := tbm_4 (List.mem_of_getElem? (i := 228) (by decide +kernel))
theorem tb_4_229 : (Jvm.Cond.methodLink "CheriCoreLaw" (74 : Nat) ({ cls := "CheriCoreLaw", name := "told", desc := "(LCheriCore;II[J)I" } : Jvm.MethodName)) ∈ TB := tbm_4 (List.mem_of_getElem? (i := 229) (by decide +kernel))
theorem tb_4_23 : (Jvm.Cond.code ({ cls := "CheriCore$CapabilityUnit", name := "unseal", desc := "(LCheriCore$Instruction;LCheriCore$Capability;LCheriCore$Capability;)I" } : Jvm.MethodName) prog_4_method_8_code (5 : Nat) (Option.some Jvm.ClassFile.FieldType.int)) ∈ TB := tbm_4 (List.mem_of_getElem? (i := 23) (rfl))
theorem tb_4_230 : (Jvm.Cond.static ({ cls := "CheriCoreLaw", name := "told", desc := "(LCheriCore;II[J)I" } : Jvm.MethodName)) ∈ TB := tbm_4 (List.mem_of_getElem? (i := 230) (by decide +kernel))
theorem tb_4_232 : (Jvm.Cond.methodLink "CheriCoreLaw" (31 : Nat) ({ cls := "CheriCore", name := "told", desc := "(II)I" } : Jvm.MethodName)) ∈ TB := tbm_4 (List.mem_of_getElem? (i := 232) (by decide +kernel))
theorem tb_4_233 : (Jvm.Cond.instanceMethod ({ cls := "CheriCore", name := "told", desc := "(II)I" } : Jvm.MethodName)) ∈ TB := tbm_4 (List.mem_of_getElem? (i := 233) (by decide +kernel))
theorem tb_4_234 : (Jvm.Cond.selects "CheriCore" ({ cls := "CheriCore", name := "told", desc := "(II)I" } : Jvm.MethodName) ({ cls := "CheriCore", name := "told", desc := "(II)I" } : Jvm.MethodName)) ∈ TB := tbm_4 (List.mem_of_getElem? (i := 234) (by decide +kernel))
theorem tb_4_235 : (Jvm.Cond.code ({ cls := "CheriCore", name := "told", desc := "(II)I" } : Jvm.MethodName) prog_1_method_6_code (4 : Nat) (Option.some Jvm.ClassFile.FieldType.int)) ∈ TB := tbm_4 (List.mem_of_getElem? (i := 235) (rfl))
theorem tb_4_236 : (Jvm.Cond.methodLink "CheriCore" (148 : Nat) ({ cls := "CheriCore$Capability", name := "toldMeta", desc := "()I" } : Jvm.MethodName)) ∈ TB := tbm_4 (List.mem_of_getElem? (i := 236) (by decide +kernel))
theorem tb_4_237 : (Jvm.Cond.methodLink "CheriCore" (152 : Nat) ({ cls := "CheriCore$Capability", name := "length", desc := "()I" } : Jvm.MethodName)) ∈ TB := tbm_4 (List.mem_of_getElem? (i := 237) (by decide +kernel))
theorem tb_4_238 : (Jvm.Cond.methodLink "CheriCore" (155 : Nat) ({ cls := "CheriCore$Capability", name := "perms", desc := "()I" } : Jvm.MethodName)) ∈ TB := tbm_4 (List.mem_of_getElem? (i := 238) (by decide +kernel))
theorem tb_4_239 : (Jvm.Cond.methodLink "CheriCore" (158 : Nat) ({ cls := "CheriCore$Capability", name := "type", desc := "()I" } : Jvm.MethodName)) ∈ TB := tbm_4 (List.mem_of_getElem? (i := 239) (by decide +kernel))
theorem tb_4_24 : (Jvm.Cond.methodLink "CheriCore$CapabilityUnit" (175 : Nat) ({ cls := "CheriCore$Capability", name := "type", desc := "()I" } : Jvm.MethodName)) ∈ TB := tbm_4 (List.mem_of_getElem? (i := 24) (by decide +kernel))
theorem tb_4_25 : (Jvm.Cond.methodLink "CheriCore$CapabilityUnit" (179 : Nat) ({ cls := "CheriCore$Capability", name := "perms", desc := "()I" } : Jvm.MethodName)) ∈ TB := tbm_4 (List.mem_of_getElem? (i := 25) (by decide +kernel))
theorem tb_4_26 : (Jvm.Cond.methodLink "CheriCore$CapabilityUnit" (182 : Nat) ({ cls := "CheriCore$Capability", name := "setPerms", desc := "(I)V" } : Jvm.MethodName)) ∈ TB := tbm_4 (List.mem_of_getElem? (i := 26) (by decide +kernel))
theorem tb_4_27 : (Jvm.Cond.instanceMethod ({ cls := "CheriCore$Capability", name := "setPerms", desc := "(I)V" } : Jvm.MethodName)) ∈ TB := tbm_4 (List.mem_of_getElem? (i := 27) (by decide +kernel))
theorem tb_4_28 : (Jvm.Cond.selects "CheriCore$Capability" ({ cls := "CheriCore$Capability", name := "setPerms", desc := "(I)V" } : Jvm.MethodName) ({ cls := "CheriCore$Capability", name := "setPerms", desc := "(I)V" } : Jvm.MethodName)) ∈ TB := tbm_4 (List.mem_of_getElem? (i := 28) (by decide +kernel))
theorem tb_4_29 : (Jvm.Cond.code ({ cls := "CheriCore$Capability", name := "setPerms", desc := "(I)V" } : Jvm.MethodName) prog_3_method_7_code (2 : Nat) (Option.none : Option Jvm.ClassFile.FieldType)) ∈ TB := tbm_4 (List.mem_of_getElem? (i := 29) (rfl))
theorem tb_4_3 : (Jvm.Cond.methodLink "CheriCore$CapabilityUnit" (155 : Nat) ({ cls := "CheriCore$Capability", name := "covers", desc := "(IJ)Z" } : Jvm.MethodName)) ∈ TB := tbm_4 (List.mem_of_getElem? (i := 3) (by decide +kernel))
theorem tb_4_30 : (Jvm.Cond.constant "CheriCore$Capability" (40 : Nat) (1048575 : Int32)) ∈ TB := tbm_4 (List.mem_of_getElem? (i := 30) (by decide +kernel))
theorem tb_4_31 : (Jvm.Cond.methodLink "CheriCore$CapabilityUnit" (79 : Nat) ({ cls := "CheriCore$CapabilityUnit", name := "andPerms", desc := "(LCheriCore$Instruction;LCheriCore$Capability;I)I" } : Jvm.MethodName)) ∈ TB := tbm_4 (List.mem_of_getElem? (i := 31) (by decide +kernel))
theorem tb_4_33 : (Jvm.Cond.instanceMethod ({ cls := "CheriCore$CapabilityUnit", name := "andPerms", desc := "(LCheriCore$Instruction;LCheriCore$Capability;I)I" } : Jvm.MethodName)) ∈ TB := tbm_4 (List.mem_of_getElem? (i := 33) (by decide +kernel))
theorem tb_4_34 : (Jvm.Cond.code ({ cls := "CheriCore$CapabilityUnit", name := "andPerms", desc := "(LCheriCore$Instruction;LCheriCore$Capability;I)I" } : Jvm.MethodName) prog_4_method_10_code (4 : Nat) (Option.some Jvm.ClassFile.FieldType.int)) ∈ TB := tbm_4 (List.mem_of_getElem? (i := 34) (rfl))
theorem tb_4_35 : (Jvm.Cond.methodLink "CheriCore$CapabilityUnit" (52 : Nat) ({ cls := "CheriCore$CapabilityUnit", name := "move", desc := "(LCheriCore$Instruction;LCheriCore$Capability;I)I" } : Jvm.MethodName)) ∈ TB := tbm_4 (List.mem_of_getElem? (i := 35) (by decide +kernel))
theorem tb_4_37 : (Jvm.Cond.instanceMethod ({ cls := "CheriCore$CapabilityUnit", name := "move", desc := "(LCheriCore$Instruction;LCheriCore$Capability;I)I" } : Jvm.MethodName)) ∈ TB := tbm_4 (List.mem_of_getElem? (i := 37) (by decide +kernel))
theorem tb_4_38 : (Jvm.Cond.code ({ cls := "CheriCore$CapabilityUnit", name := "move", desc := "(LCheriCore$Instruction;LCheriCore$Capability;I)I" } : Jvm.MethodName) prog_4_method_4_code (4 : Nat) (Option.some Jvm.ClassFile.FieldType.int)) ∈ TB := tbm_4 (List.mem_of_getElem? (i := 38) (rfl))
theorem tb_4_39 : (Jvm.Cond.methodLink "CheriCore$CapabilityUnit" (121 : Nat) ({ cls := "CheriCore$Capability", name := "moveTo", desc := "(I)V" } : Jvm.MethodName)) ∈ TB := tbm_4 (List.mem_of_getElem? (i := 39) (by decide +kernel))
theorem tb_4_4 : (Jvm.Cond.methodLink "CheriCore$CapabilityUnit" (162 : Nat) ({ cls := "CheriCore$Capability", name := "setBounds", desc := "(I)V" } : Jvm.MethodName)) ∈ TB := tbm_4 (List.mem_of_getElem? (i := 4) (by decide +kernel))
theorem tb_4_40 : (Jvm.Cond.instanceMethod ({ cls := "CheriCore$Capability", name := "moveTo", desc := "(I)V" } : Jvm.MethodName)) ∈ TB := tbm_4 (List.mem_of_getElem? (i := 40) (by decide +kernel))
theorem tb_4_41 : (Jvm.Cond.selects "CheriCore$Capability" ({ cls := "CheriCore$Capability", name := "moveTo", desc := "(I)V" } : Jvm.MethodName) ({ cls := "CheriCore$Capability", name := "moveTo", desc := "(I)V" } : Jvm.MethodName)) ∈ TB := tbm_4 (List.mem_of_getElem? (i := 41) (by decide +kernel))
theorem tb_4_42 : (Jvm.Cond.code ({ cls := "CheriCore$Capability", name := "moveTo", desc := "(I)V" } : Jvm.MethodName) prog_3_method_5_code (6 : Nat) (Option.none : Option Jvm.ClassFile.FieldType)) ∈ TB := tbm_4 (List.mem_of_getElem? (i := 42) (rfl))
theorem tb_4_43 : (Jvm.Cond.methodLink "CheriCore$Capability" (35 : Nat) ({ cls := "CheriCore$Capability", name := "isOpen", desc := "()Z" } : Jvm.MethodName)) ∈ TB := tbm_4 (List.mem_of_getElem? (i := 43) (by decide +kernel))
theorem tb_4_44 : (Jvm.Cond.methodLink "CheriCore$CapabilityUnit" (89 : Nat) ({ cls := "CheriCore$State", name := "answerNumber", desc := "(II)I" } : Jvm.MethodName)) ∈ TB := tbm_4 (List.mem_of_getElem? (i := 44) (by decide +kernel))
theorem tb_4_45 : (Jvm.Cond.instanceMethod ({ cls := "CheriCore$State", name := "answerNumber", desc := "(II)I" } : Jvm.MethodName)) ∈ TB := tbm_4 (List.mem_of_getElem? (i := 45) (by decide +kernel))
theorem tb_4_46 : (Jvm.Cond.selects "CheriCore$State" ({ cls := "CheriCore$State", name := "answerNumber", desc := "(II)I" } : Jvm.MethodName) ({ cls := "CheriCore$State", name := "answerNumber", desc := "(II)I" } : Jvm.MethodName)) ∈ TB := tbm_4 (List.mem_of_getElem? (i := 46) (by decide +kernel))
theorem tb_4_47 : (Jvm.Cond.code ({ cls := "CheriCore$State", name := "answerNumber", desc := "(II)I" } : Jvm.MethodName) prog_10_method_10_code (3 : Nat) (Option.some Jvm.ClassFile.FieldType.int)) ∈ TB := tbm_4 (List.mem_of_getElem? (i := 47) (rfl))
theorem tb_4_48 : (Jvm.Cond.methodLink "CheriCore$State" (99 : Nat) ({ cls := "CheriCore$Capability", name := "becomeNumber", desc := "(I)V" } : Jvm.MethodName)) ∈ TB := tbm_4 (List.mem_of_getElem? (i := 48) (by decide +kernel))
theorem tb_4_49 : (Jvm.Cond.instanceMethod ({ cls := "CheriCore$Capability", name := "becomeNumber", desc := "(I)V" } : Jvm.MethodName)) ∈ TB := tbm_4 (List.mem_of_getElem? (i := 49) (by decide +kernel))
theorem tb_4_5 : (Jvm.Cond.instanceMethod ({ cls := "CheriCore$Capability", name := "setBounds", desc := "(I)V" } : Jvm.MethodName)) ∈ TB := tbm_4 (List.mem_of_getElem? (i := 5) (by decide +kernel))
theorem tb_4_50 : (Jvm.Cond.selects "CheriCore$Capability" ({ cls := "CheriCore$Capability", name := "becomeNumber", desc := "(I)V" } : Jvm.MethodName) ({ cls := "CheriCore$Capability", name := "becomeNumber", desc := "(I)V" } : Jvm.MethodName)) ∈ TB := tbm_4 (List.mem_of_getElem? (i := 50) (by decide +kernel))
theorem tb_4_51 : (Jvm.Cond.code ({ cls := "CheriCore$Capability", name := "becomeNumber", desc := "(I)V" } : Jvm.MethodName) prog_3_method_3_code (2 : Nat) (Option.none : Option Jvm.ClassFile.FieldType)) ∈ TB := tbm_4 (List.mem_of_getElem? (i := 51) (rfl))
theorem tb_4_52 : (Jvm.Cond.methodLink "CheriCore$CapabilityUnit" (93 : Nat) ({ cls := "CheriCore$CapabilityUnit", name := "setHigh", desc := "(LCheriCore$Instruction;LCheriCore$Capability;I)I" } : Jvm.MethodName)) ∈ TB := tbm_4 (List.mem_of_getElem? (i := 52) (by decide +kernel))
theorem tb_4_54 : (Jvm.Cond.instanceMethod ({ cls := "CheriCore$CapabilityUnit", name := "setHigh", desc := "(LCheriCore$Instruction;LCheriCore$Capability;I)I" } : Jvm.MethodName)) ∈ TB := tbm_4 (List.mem_of_getElem? (i := 54) (by decide +kernel))
theorem tb_4_55 : (Jvm.Cond.code ({ cls := "CheriCore$CapabilityUnit", name := "setHigh", desc := "(LCheriCore$Instruction;LCheriCore$Capability;I)I" } : Jvm.MethodName) prog_4_method_11_code (4 : Nat) (Option.some Jvm.ClassFile.FieldType.int)) ∈ TB := tbm_4 (List.mem_of_getElem? (i := 55) (rfl))
theorem tb_4_56 : (Jvm.Cond.constant "CheriCore$CapabilityUnit" (185 : Nat) (1000194 : Int32)) ∈ TB := tbm_4 (List.mem_of_getElem? (i := 56) (by decide +kernel))
theorem tb_4_57 : (Jvm.Cond.methodLink "CheriCore$CapabilityUnit" (186 : Nat) ({ cls := "CheriCore$Capability", name := "define", desc := "(ZII)V" } : Jvm.MethodName)) ∈ TB := tbm_4 (List.mem_of_getElem? (i := 57) (by decide +kernel))
theorem tb_4_58 : (Jvm.Cond.methodLink "CheriCore$CapabilityUnit" (96 : Nat) ({ cls := "CheriCore$CapabilityUnit", name := "build", desc := "(LCheriCore$Instruction;LCheriCore$Capability;LCheriCore$Capability;)I" } : Jvm.MethodName)) ∈ TB := tbm_4 (List.mem_of_getElem? (i := 58) (by decide +kernel))
theorem tb_4_6 : (Jvm.Cond.selects "CheriCore$Capability" ({ cls := "CheriCore$Capability", name := "setBounds", desc := "(I)V" } : Jvm.MethodName) ({ cls := "CheriCore$Capability", name := "setBounds", desc := "(I)V" } : Jvm.MethodName)) ∈ TB := tbm_4 (List.mem_of_getElem? (i := 6) (by decide +kernel))
theorem tb_4_60 : (Jvm.Cond.instanceMethod ({ cls := "CheriCore$CapabilityUnit", name := "build", desc := "(LCheriCore$Instruction;LCheriCore$Capability;LCheriCore$Capability;)I" } : Jvm.MethodName)) ∈ TB := tbm_4 (List.mem_of_getElem? (i := 60) (by decide +kernel))
theorem tb_4_61 : (Jvm.Cond.code ({ cls := "CheriCore$CapabilityUnit", name := "build", desc := "(LCheriCore$Instruction;LCheriCore$Capability;LCheriCore$Capability;)I" } : Jvm.MethodName) prog_4_method_12_code (5 : Nat) (Option.some Jvm.ClassFile.FieldType.int)) ∈ TB := tbm_4 (List.mem_of_getElem? (i := 61) (rfl))
theorem tb_4_62 : (Jvm.Cond.methodLink "CheriCore$CapabilityUnit" (103 : Nat) ({ cls := "CheriCore$Capability", name := "isWithin", desc := "(LCheriCore$Capability;)Z" } : Jvm.MethodName)) ∈ TB := tbm_4 (List.mem_of_getElem? (i := 62) (by decide +kernel))
theorem tb_4_63 : (Jvm.Cond.methodLink "CheriCore$CapabilityUnit" (107 : Nat) ({ cls := "CheriCore$CapabilityUnit", name := "invoke", desc := "(LCheriCore$Instruction;LCheriCore$Capability;LCheriCore$Capability;)I" } : Jvm.MethodName)) ∈ TB := tbm_4 (List.mem_of_getElem? (i := 63) (by decide +kernel))
theorem tb_4_65 : (Jvm.Cond.instanceMethod ({ cls := "CheriCore$CapabilityUnit", name := "invoke", desc := "(LCheriCore$Instruction;LCheriCore$Capability;LCheriCore$Capability;)I" } : Jvm.MethodName)) ∈ TB := tbm_4 (List.mem_of_getElem? (i := 65) (by decide +kernel))
theorem tb_4_66 : (Jvm.Cond.code ({ cls := "CheriCore$CapabilityUnit", name := "invoke", desc := "(LCheriCore$Instruction;LCheriCore$Capability;LCheriCore$Capability;)I" } : Jvm.MethodName) prog_4_method_13_code (6 : Nat) (Option.some Jvm.ClassFile.FieldType.int)) ∈ TB := tbm_4 (List.mem_of_getElem? (i := 66) (rfl))
theorem tb_4_67 : (Jvm.Cond.methodLink "CheriCore$CapabilityUnit" (193 : Nat) ({ cls := "CheriCore$CapabilityUnit", name := "invokeFault", desc := "(LCheriCore$Instruction;LCheriCore$Capability;LCheriCore$Capability;)I" } : Jvm.MethodName)) ∈ TB := tbm_4 (List.mem_of_getElem? (i := 67) (by decide +kernel))
theorem tb_4_69 : (Jvm.Cond.instanceMethod ({ cls := "CheriCore$CapabilityUnit", name := "invokeFault", desc := "(LCheriCore$Instruction;LCheriCore$Capability;LCheriCore$Capability;)I" } : Jvm.MethodName)) ∈ TB := tbm_4 (List.mem_of_getElem? (i := 69) (by decide +kernel))
theorem tb_4_7 : (Jvm.Cond.code ({ cls := "CheriCore$Capability", name := "setBounds", desc := "(I)V" } : Jvm.MethodName) prog_3_method_8_code (2 : Nat) (Option.none : Option Jvm.ClassFile.FieldType)) ∈ TB := tbm_4 (List.mem_of_getElem? (i := 7) (rfl))
theorem tb_4_70 : (Jvm.Cond.code ({ cls := "CheriCore$CapabilityUnit", name := "invokeFault", desc := "(LCheriCore$Instruction;LCheriCore$Capability;LCheriCore$Capability;)I" } : Jvm.MethodName) prog_4_method_14_code (5 : Nat) (Option.some Jvm.ClassFile.FieldType.int)) ∈ TB := tbm_4 (List.mem_of_getElem? (i := 70) (rfl))
theorem tb_4_71 : (Jvm.Cond.constantLong "CheriCore$CapabilityUnit" (196 : Nat) (4 : Int64)) ∈ TB := tbm_4 (List.mem_of_getElem? (i := 71) (by decide +kernel))
theorem tb_4_72 : (Jvm.Cond.methodLink "CheriCore$CapabilityUnit" (198 : Nat) ({ cls := "CheriCore$State", name := "fault", desc := "(II)I" } : Jvm.MethodName)) ∈ TB := tbm_4 (List.mem_of_getElem? (i := 72) (by decide +kernel))
theorem tb_4_73 : (Jvm.Cond.methodLink "CheriCore$CapabilityUnit" (110 : Nat) ({ cls := "CheriCore$CapabilityUnit", name := "inspect", desc := "(LCheriCore$Instruction;LCheriCore$Capability;)I" } : Jvm.MethodName)) ∈ TB := tbm_4 (List.mem_of_getElem? (i := 73) (by decide +kernel))
theorem tb_4_75 : (Jvm.Cond.instanceMethod ({ cls := "CheriCore$CapabilityUnit", name := "inspect", desc := "(LCheriCore$Instruction;LCheriCore$Capability;)I" } : Jvm.MethodName)) ∈ TB := tbm_4 (List.mem_of_getElem? (i := 75) (by decide +kernel))
theorem tb_4_76 : (Jvm.Cond.code ({ cls := "CheriCore$CapabilityUnit", name := "inspect", desc := "(LCheriCore$Instruction;LCheriCore$Capability;)I" } : Jvm.MethodName) prog_4_method_15_code (3 : Nat) (Option.some Jvm.ClassFile.FieldType.int)) ∈ TB := tbm_4 (List.mem_of_getElem? (i := 76) (rfl))
theorem tb_4_77 : (Jvm.Cond.methodLink "CheriCore$CapabilityUnit" (201 : Nat) ({ cls := "CheriCore$Capability", name := "length", desc := "()I" } : Jvm.MethodName)) ∈ TB := tbm_4 (List.mem_of_getElem? (i := 77) (by decide +kernel))
theorem tb_4_78 : (Jvm.Cond.instanceMethod ({ cls := "CheriCore$Capability", name := "length", desc := "()I" } : Jvm.MethodName)) ∈ TB := tbm_4 (List.mem_of_getElem? (i := 78) (by decide +kernel))
theorem tb_4_79 : (Jvm.Cond.selects "CheriCore$Capability" ({ cls := "CheriCore$Capability", name := "length", desc := "()I" } : Jvm.MethodName) ({ cls := "CheriCore$Capability", name := "length", desc := "()I" } : Jvm.MethodName)) ∈ TB := tbm_4 (List.mem_of_getElem? (i := 79) (by decide +kernel))
theorem tb_4_8 : (Jvm.Cond.methodLink "CheriCore$CapabilityUnit" (73 : Nat) ({ cls := "CheriCore$CapabilityUnit", name := "seal", desc := "(LCheriCore$Instruction;LCheriCore$Capability;LCheriCore$Capability;)I" } : Jvm.MethodName)) ∈ TB := tbm_4 (List.mem_of_getElem? (i := 8) (by decide +kernel))
theorem tb_4_80 : (Jvm.Cond.code ({ cls := "CheriCore$Capability", name := "length", desc := "()I" } : Jvm.MethodName) prog_3_method_14_code (1 : Nat) (Option.some Jvm.ClassFile.FieldType.int)) ∈ TB := tbm_4 (List.mem_of_getElem? (i := 80) (rfl))
theorem tb_4_81 : (Jvm.Cond.methodLink "CheriCore$Capability" (50 : Nat) ({ cls := "java/lang/Math", name := "min", desc := "(JJ)J" } : Jvm.MethodName)) ∈ TB := tbm_4 (List.mem_of_getElem? (i := 81) (by decide +kernel))
theorem tb_4_82 : (Jvm.Cond.methodLink "CheriCore$CapabilityUnit" (204 : Nat) ({ cls := "CheriCore$CapabilityUnit", name := "representable", desc := "(LCheriCore$Instruction;IZ)I" } : Jvm.MethodName)) ∈ TB := tbm_4 (List.mem_of_getElem? (i := 82) (by decide +kernel))
theorem tb_4_84 : (Jvm.Cond.instanceMethod ({ cls := "CheriCore$CapabilityUnit", name := "representable", desc := "(LCheriCore$Instruction;IZ)I" } : Jvm.MethodName)) ∈ TB := tbm_4 (List.mem_of_getElem? (i := 84) (by decide +kernel))
theorem tb_4_85 : (Jvm.Cond.code ({ cls := "CheriCore$CapabilityUnit", name := "representable", desc := "(LCheriCore$Instruction;IZ)I" } : Jvm.MethodName) prog_4_method_16_code (5 : Nat) (Option.some Jvm.ClassFile.FieldType.int)) ∈ TB := tbm_4 (List.mem_of_getElem? (i := 85) (rfl))
theorem tb_4_86 : (Jvm.Cond.methodLink "CheriCore$CapabilityUnit" (208 : Nat) ({ cls := "CheriCore$CapabilityUnit", name := "copy", desc := "(LCheriCore$Instruction;LCheriCore$Capability;Z)I" } : Jvm.MethodName)) ∈ TB := tbm_4 (List.mem_of_getElem? (i := 86) (by decide +kernel))
theorem tb_4_88 : (Jvm.Cond.instanceMethod ({ cls := "CheriCore$CapabilityUnit", name := "copy", desc := "(LCheriCore$Instruction;LCheriCore$Capability;Z)I" } : Jvm.MethodName)) ∈ TB := tbm_4 (List.mem_of_getElem? (i := 88) (by decide +kernel))
theorem tb_4_89 : (Jvm.Cond.code ({ cls := "CheriCore$CapabilityUnit", name := "copy", desc := "(LCheriCore$Instruction;LCheriCore$Capability;Z)I" } : Jvm.MethodName) prog_4_method_17_code (4 : Nat) (Option.some Jvm.ClassFile.FieldType.int)) ∈ TB := tbm_4 (List.mem_of_getElem? (i := 89) (rfl))
theorem tb_4_90 : (Jvm.Cond.methodLink "CheriCore$CapabilityUnit" (212 : Nat) ({ cls := "CheriCore$CapabilityUnit", name := "sealEntry", desc := "(LCheriCore$Instruction;LCheriCore$Capability;)I" } : Jvm.MethodName)) ∈ TB := tbm_4 (List.mem_of_getElem? (i := 90) (by decide +kernel))
theorem tb_4_92 : (Jvm.Cond.instanceMethod ({ cls := "CheriCore$CapabilityUnit", name := "sealEntry", desc := "(LCheriCore$Instruction;LCheriCore$Capability;)I" } : Jvm.MethodName)) ∈ TB := tbm_4 (List.mem_of_getElem? (i := 92) (by decide +kernel))
theorem tb_4_93 : (Jvm.Cond.code ({ cls := "CheriCore$CapabilityUnit", name := "sealEntry", desc := "(LCheriCore$Instruction;LCheriCore$Capability;)I" } : Jvm.MethodName) prog_4_method_18_code (3 : Nat) (Option.some Jvm.ClassFile.FieldType.int)) ∈ TB := tbm_4 (List.mem_of_getElem? (i := 93) (rfl))
theorem tb_4_94 : (Jvm.Cond.methodLink "CheriCore$CapabilityUnit" (215 : Nat) ({ cls := "CheriCore$Capability", name := "toldMeta", desc := "()I" } : Jvm.MethodName)) ∈ TB := tbm_4 (List.mem_of_getElem? (i := 94) (by decide +kernel))
theorem tb_4_95 : (Jvm.Cond.instanceMethod ({ cls := "CheriCore$Capability", name := "toldMeta", desc := "()I" } : Jvm.MethodName)) ∈ TB := tbm_4 (List.mem_of_getElem? (i := 95) (by decide +kernel))
theorem tb_4_96 : (Jvm.Cond.selects "CheriCore$Capability" ({ cls := "CheriCore$Capability", name := "toldMeta", desc := "()I" } : Jvm.MethodName) ({ cls := "CheriCore$Capability", name := "toldMeta", desc := "()I" } : Jvm.MethodName)) ∈ TB := tbm_4 (List.mem_of_getElem? (i := 96) (by decide +kernel))
theorem tb_4_97 : (Jvm.Cond.code ({ cls := "CheriCore$Capability", name := "toldMeta", desc := "()I" } : Jvm.MethodName) prog_3_method_13_code (1 : Nat) (Option.some Jvm.ClassFile.FieldType.int)) ∈ TB := tbm_4 (List.mem_of_getElem? (i := 97) (rfl))
theorem tb_4_98 : (Jvm.Cond.methodLink "CheriCore" (226 : Nat) ({ cls := "CheriCore$BaseUnit", name := "execute", desc := "(LCheriCore$Instruction;)I" } : Jvm.MethodName)) ∈ TB := tbm_4 (List.mem_of_getElem? (i := 98) (by decide +kernel))
theorem tb_4_99 : (Jvm.Cond.instanceMethod ({ cls := "CheriCore$BaseUnit", name := "execute", desc := "(LCheriCore$Instruction;)I" } : Jvm.MethodName)) ∈ TB := tbm_4 (List.mem_of_getElem? (i := 99) (by decide +kernel))
theorem tb_5_1 : (Jvm.Cond.methodLink "CheriCoreLaw" (77 : Nat) ({ cls := "CheriCoreLaw", name := "memory", desc := "(LCheriCore;I[J)I" } : Jvm.MethodName)) ∈ TB := tbm_5 (List.mem_of_getElem? (i := 1) (by decide +kernel))
theorem tb_5_101 : (Jvm.Cond.arrayClass Jvm.ClassFile.FieldType.long) ∈ TB := tbm_5 (List.mem_of_getElem? (i := 101) (by decide +kernel))
theorem tb_5_102 : (Jvm.Cond.methodLink "CheriCoreLaw" (58 : Nat) ({ cls := "CheriCoreModel", name := "thrown", desc := "()I" } : Jvm.MethodName)) ∈ TB := tbm_5 (List.mem_of_getElem? (i := 102) (by decide +kernel))
theorem tb_5_103 : (Jvm.Cond.instanceMethod ({ cls := "CheriCoreModel", name := "thrown", desc := "()I" } : Jvm.MethodName)) ∈ TB := tbm_5 (List.mem_of_getElem? (i := 103) (by decide +kernel))
theorem tb_5_104 : (Jvm.Cond.selects "CheriCoreModel" ({ cls := "CheriCoreModel", name := "thrown", desc := "()I" } : Jvm.MethodName) ({ cls := "CheriCoreModel", name := "thrown", desc := "()I" } : Jvm.MethodName)) ∈ TB := tbm_5 (List.mem_of_getElem? (i := 104) (by decide +kernel))
theorem tb_5_105 : (Jvm.Cond.code ({ cls := "CheriCoreModel", name := "thrown", desc := "()I" } : Jvm.MethodName) prog_13_method_2_code (1 : Nat) (Option.some Jvm.ClassFile.FieldType.int)) ∈ TB := tbm_5 (List.mem_of_getElem? (i := 105) (rfl))
theorem tb_5_106 : (Jvm.Cond.methodLink "CheriCoreLaw" (57 : Nat) ({ cls := "CheriCoreModel", name := "word", desc := "(II)I" } : Jvm.MethodName)) ∈ TB := tbm_5 (List.mem_of_getElem? (i := 106) (by decide +kernel))
theorem tb_5_107 : (Jvm.Cond.instanceMethod ({ cls := "CheriCoreModel", name := "word", desc := "(II)I" } : Jvm.MethodName)) ∈ TB := tbm_5 (List.mem_of_getElem? (i := 107) (by decide +kernel))
theorem tb_5_108 : (Jvm.Cond.selects "CheriCoreModel" ({ cls := "CheriCoreModel", name := "word", desc := "(II)I" } : Jvm.MethodName) ({ cls := "CheriCoreModel", name := "word", desc := "(II)I" } : Jvm.MethodName)) ∈ TB := tbm_5 (List.mem_of_getElem? (i := 108) (by decide +kernel))
theorem tb_5_109 : (Jvm.Cond.code ({ cls := "CheriCoreModel", name := "word", desc := "(II)I" } : Jvm.MethodName) prog_13_method_46_code (4 : Nat) (Option.some Jvm.ClassFile.FieldType.int)) ∈ TB := tbm_5 (List.mem_of_getElem? (i := 109) (rfl))
theorem tb_5_11 : (Jvm.Cond.methodLink "CheriCoreLaw" (37 : Nat) ({ cls := "CheriCore", name := "tag", desc := "(I)Z" } : Jvm.MethodName)) ∈ TB := tbm_5 (List.mem_of_getElem? (i := 11) (by decide +kernel))
theorem tb_5_110 : (Jvm.Cond.methodLink "CheriCoreModel" (245 : Nat) ({ cls := "CheriCoreModel", name := "fail", desc := "(I)I" } : Jvm.MethodName)) ∈ TB := tbm_5 (List.mem_of_getElem? (i := 110) (by decide +kernel))
theorem tb_5_112 : (Jvm.Cond.instanceMethod ({ cls := "CheriCoreModel", name := "fail", desc := "(I)I" } : Jvm.MethodName)) ∈ TB := tbm_5 (List.mem_of_getElem? (i := 112) (by decide +kernel))
theorem tb_5_113 : (Jvm.Cond.code ({ cls := "CheriCoreModel", name := "fail", desc := "(I)I" } : Jvm.MethodName) prog_13_method_3_code (2 : Nat) (Option.some Jvm.ClassFile.FieldType.int)) ∈ TB := tbm_5 (List.mem_of_getElem? (i := 113) (rfl))
theorem tb_5_114 : (Jvm.Cond.methodLink "CheriCoreLaw" (65 : Nat) ({ cls := "CheriCoreModel", name := "root", desc := "(IIII)I" } : Jvm.MethodName)) ∈ TB := tbm_5 (List.mem_of_getElem? (i := 114) (by decide +kernel))
theorem tb_5_115 : (Jvm.Cond.instanceMethod ({ cls := "CheriCoreModel", name := "root", desc := "(IIII)I" } : Jvm.MethodName)) ∈ TB := tbm_5 (List.mem_of_getElem? (i := 115) (by decide +kernel))
theorem tb_5_116 : (Jvm.Cond.selects "CheriCoreModel" ({ cls := "CheriCoreModel", name := "root", desc := "(IIII)I" } : Jvm.MethodName) ({ cls := "CheriCoreModel", name := "root", desc := "(IIII)I" } : Jvm.MethodName)) ∈ TB := tbm_5 (List.mem_of_getElem? (i := 116) (by decide +kernel))
theorem tb_5_117 : (Jvm.Cond.code ({ cls := "CheriCoreModel", name := "root", desc := "(IIII)I" } : Jvm.MethodName) prog_13_method_47_code (5 : Nat) (Option.some Jvm.ClassFile.FieldType.int)) ∈ TB := tbm_5 (List.mem_of_getElem? (i := 117) (rfl))
theorem tb_5_118 : (Jvm.Cond.methodLink "CheriCoreModel" (58 : Nat) ({ cls := "CheriCoreModel", name := "low", desc := "(I)J" } : Jvm.MethodName)) ∈ TB := tbm_5 (List.mem_of_getElem? (i := 118) (by decide +kernel))
theorem tb_5_119 : (Jvm.Cond.static ({ cls := "CheriCoreModel", name := "low", desc := "(I)J" } : Jvm.MethodName)) ∈ TB := tbm_5 (List.mem_of_getElem? (i := 119) (by decide +kernel))
theorem tb_5_12 : (Jvm.Cond.instanceMethod ({ cls := "CheriCore", name := "tag", desc := "(I)Z" } : Jvm.MethodName)) ∈ TB := tbm_5 (List.mem_of_getElem? (i := 12) (by decide +kernel))
theorem tb_5_120 : (Jvm.Cond.code ({ cls := "CheriCoreModel", name := "low", desc := "(I)J" } : Jvm.MethodName) prog_13_method_4_code (1 : Nat) (Option.some Jvm.ClassFile.FieldType.long)) ∈ TB := tbm_5 (List.mem_of_getElem? (i := 120) (rfl))
theorem tb_5_121 : (Jvm.Cond.constantLong "CheriCoreModel" (41 : Nat) (4294967295 : Int64)) ∈ TB := tbm_5 (List.mem_of_getElem? (i := 121) (by decide +kernel))
theorem tb_5_122 : (Jvm.Cond.constantLong "CheriCoreModel" (78 : Nat) (4294967296 : Int64)) ∈ TB := tbm_5 (List.mem_of_getElem? (i := 122) (by decide +kernel))
theorem tb_5_123 : (Jvm.Cond.methodLink "CheriCoreModel" (213 : Nat) ({ cls := "CheriCoreModel", name := "pack", desc := "(JJ)V" } : Jvm.MethodName)) ∈ TB := tbm_5 (List.mem_of_getElem? (i := 123) (by decide +kernel))
theorem tb_5_125 : (Jvm.Cond.instanceMethod ({ cls := "CheriCoreModel", name := "pack", desc := "(JJ)V" } : Jvm.MethodName)) ∈ TB := tbm_5 (List.mem_of_getElem? (i := 125) (by decide +kernel))
theorem tb_5_126 : (Jvm.Cond.code ({ cls := "CheriCoreModel", name := "pack", desc := "(JJ)V" } : Jvm.MethodName) prog_13_method_18_code (16 : Nat) (Option.none : Option Jvm.ClassFile.FieldType)) ∈ TB := tbm_5 (List.mem_of_getElem? (i := 126) (rfl))
theorem tb_5_127 : (Jvm.Cond.constantLong "CheriCoreModel" (83 : Nat) (128 : Int64)) ∈ TB := tbm_5 (List.mem_of_getElem? (i := 127) (by decide +kernel))
theorem tb_5_128 : (Jvm.Cond.constantLong "CheriCoreModel" (85 : Nat) (63 : Int64)) ∈ TB := tbm_5 (List.mem_of_getElem? (i := 128) (by decide +kernel))
theorem tb_5_129 : (Jvm.Cond.constantLong "CheriCoreModel" (98 : Nat) (16 : Int64)) ∈ TB := tbm_5 (List.mem_of_getElem? (i := 129) (by decide +kernel))
theorem tb_5_13 : (Jvm.Cond.selects "CheriCore" ({ cls := "CheriCore", name := "tag", desc := "(I)Z" } : Jvm.MethodName) ({ cls := "CheriCore", name := "tag", desc := "(I)Z" } : Jvm.MethodName)) ∈ TB := tbm_5 (List.mem_of_getElem? (i := 13) (by decide +kernel))
theorem tb_5_130 : (Jvm.Cond.constant "CheriCoreModel" (251 : Nat) (983040 : Int32)) ∈ TB := tbm_5 (List.mem_of_getElem? (i := 130) (by decide +kernel))
theorem tb_5_131 : (Jvm.Cond.methodLink "CheriCoreModel" (100 : Nat) ({ cls := "CheriCoreModel", name := "set", desc := "(IZII)V" } : Jvm.MethodName)) ∈ TB := tbm_5 (List.mem_of_getElem? (i := 131) (by decide +kernel))
theorem tb_5_133 : (Jvm.Cond.instanceMethod ({ cls := "CheriCoreModel", name := "set", desc := "(IZII)V" } : Jvm.MethodName)) ∈ TB := tbm_5 (List.mem_of_getElem? (i := 133) (by decide +kernel))
theorem tb_5_134 : (Jvm.Cond.code ({ cls := "CheriCoreModel", name := "set", desc := "(IZII)V" } : Jvm.MethodName) prog_13_method_19_code (5 : Nat) (Option.none : Option Jvm.ClassFile.FieldType)) ∈ TB := tbm_5 (List.mem_of_getElem? (i := 134) (rfl))
theorem tb_5_135 : (Jvm.Cond.methodLink "CheriCoreModel" (75 : Nat) ({ cls := "CheriCoreModel", name := "base", desc := "(II)J" } : Jvm.MethodName)) ∈ TB := tbm_5 (List.mem_of_getElem? (i := 135) (by decide +kernel))
theorem tb_5_136 : (Jvm.Cond.static ({ cls := "CheriCoreModel", name := "base", desc := "(II)J" } : Jvm.MethodName)) ∈ TB := tbm_5 (List.mem_of_getElem? (i := 136) (by decide +kernel))
theorem tb_5_137 : (Jvm.Cond.code ({ cls := "CheriCoreModel", name := "base", desc := "(II)J" } : Jvm.MethodName) prog_13_method_14_code (2 : Nat) (Option.some Jvm.ClassFile.FieldType.long)) ∈ TB := tbm_5 (List.mem_of_getElem? (i := 137) (rfl))
theorem tb_5_138 : (Jvm.Cond.methodLink "CheriCoreModel" (45 : Nat) ({ cls := "CheriCoreModel", name := "bottom", desc := "(I)I" } : Jvm.MethodName)) ∈ TB := tbm_5 (List.mem_of_getElem? (i := 138) (by decide +kernel))
theorem tb_5_139 : (Jvm.Cond.static ({ cls := "CheriCoreModel", name := "bottom", desc := "(I)I" } : Jvm.MethodName)) ∈ TB := tbm_5 (List.mem_of_getElem? (i := 139) (by decide +kernel))
theorem tb_5_14 : (Jvm.Cond.code ({ cls := "CheriCore", name := "tag", desc := "(I)Z" } : Jvm.MethodName) prog_1_method_8_code (2 : Nat) (Option.some Jvm.ClassFile.FieldType.boolean)) ∈ TB := tbm_5 (List.mem_of_getElem? (i := 14) (rfl))
theorem tb_5_140 : (Jvm.Cond.code ({ cls := "CheriCoreModel", name := "bottom", desc := "(I)I" } : Jvm.MethodName) prog_13_method_10_code (1 : Nat) (Option.some Jvm.ClassFile.FieldType.int)) ∈ TB := tbm_5 (List.mem_of_getElem? (i := 140) (rfl))
theorem tb_5_141 : (Jvm.Cond.methodLink "CheriCoreModel" (55 : Nat) ({ cls := "CheriCoreModel", name := "scale", desc := "(I)I" } : Jvm.MethodName)) ∈ TB := tbm_5 (List.mem_of_getElem? (i := 141) (by decide +kernel))
theorem tb_5_142 : (Jvm.Cond.static ({ cls := "CheriCoreModel", name := "scale", desc := "(I)I" } : Jvm.MethodName)) ∈ TB := tbm_5 (List.mem_of_getElem? (i := 142) (by decide +kernel))
theorem tb_5_143 : (Jvm.Cond.code ({ cls := "CheriCoreModel", name := "scale", desc := "(I)I" } : Jvm.MethodName) prog_13_method_9_code (2 : Nat) (Option.some Jvm.ClassFile.FieldType.int)) ∈ TB := tbm_5 (List.mem_of_getElem? (i := 143) (rfl))
theorem tb_5_144 : (Jvm.Cond.methodLink "CheriCoreModel" (62 : Nat) ({ cls := "CheriCoreModel", name := "window", desc := "(II)J" } : Jvm.MethodName)) ∈ TB := tbm_5 (List.mem_of_getElem? (i := 144) (by decide +kernel))
theorem tb_5_145 : (Jvm.Cond.static ({ cls := "CheriCoreModel", name := "window", desc := "(II)J" } : Jvm.MethodName)) ∈ TB := tbm_5 (List.mem_of_getElem? (i := 145) (by decide +kernel))
theorem tb_5_146 : (Jvm.Cond.code ({ cls := "CheriCoreModel", name := "window", desc := "(II)J" } : Jvm.MethodName) prog_13_method_13_code (7 : Nat) (Option.some Jvm.ClassFile.FieldType.long)) ∈ TB := tbm_5 (List.mem_of_getElem? (i := 146) (rfl))
theorem tb_5_147 : (Jvm.Cond.methodLink "CheriCoreModel" (49 : Nat) ({ cls := "java/lang/Math", name := "floorMod", desc := "(JJ)J" } : Jvm.MethodName)) ∈ TB := tbm_5 (List.mem_of_getElem? (i := 147) (by decide +kernel))
theorem tb_5_148 : (Jvm.Cond.static ({ cls := "java/lang/Math", name := "floorMod", desc := "(JJ)J" } : Jvm.MethodName)) ∈ TB := tbm_5 (List.mem_of_getElem? (i := 148) (by decide +kernel))
theorem tb_5_149 : (Jvm.Cond.code ({ cls := "java/lang/Math", name := "floorMod", desc := "(JJ)J" } : Jvm.MethodName) prog_19_method_52_code (6 : Nat) (Option.some Jvm.ClassFile.FieldType.long)) ∈ TB := tbm_5 (List.mem_of_getElem? (i := 149) (rfl))
theorem tb_5_15 : (Jvm.Cond.methodLink "CheriCoreLaw" (83 : Nat) ({ cls := "CheriCoreLaw", name := "count", desc := "(LCheriCore;I[J)I" } : Jvm.MethodName)) ∈ TB := tbm_5 (List.mem_of_getElem? (i := 15) (by decide +kernel))
theorem tb_5_150 : (Jvm.Cond.methodLink "CheriCoreModel" (66 : Nat) ({ cls := "CheriCoreModel", name := "inWindow", desc := "(IIJ)J" } : Jvm.MethodName)) ∈ TB := tbm_5 (List.mem_of_getElem? (i := 150) (by decide +kernel))
theorem tb_5_151 : (Jvm.Cond.static ({ cls := "CheriCoreModel", name := "inWindow", desc := "(IIJ)J" } : Jvm.MethodName)) ∈ TB := tbm_5 (List.mem_of_getElem? (i := 151) (by decide +kernel))
theorem tb_5_152 : (Jvm.Cond.code ({ cls := "CheriCoreModel", name := "inWindow", desc := "(IIJ)J" } : Jvm.MethodName) prog_13_method_12_code (8 : Nat) (Option.some Jvm.ClassFile.FieldType.long)) ∈ TB := tbm_5 (List.mem_of_getElem? (i := 152) (rfl))
theorem tb_5_153 : (Jvm.Cond.methodLink "CheriCoreModel" (80 : Nat) ({ cls := "CheriCoreModel", name := "top", desc := "(II)J" } : Jvm.MethodName)) ∈ TB := tbm_5 (List.mem_of_getElem? (i := 153) (by decide +kernel))
theorem tb_5_154 : (Jvm.Cond.static ({ cls := "CheriCoreModel", name := "top", desc := "(II)J" } : Jvm.MethodName)) ∈ TB := tbm_5 (List.mem_of_getElem? (i := 154) (by decide +kernel))
theorem tb_5_155 : (Jvm.Cond.code ({ cls := "CheriCoreModel", name := "top", desc := "(II)J" } : Jvm.MethodName) prog_13_method_15_code (7 : Nat) (Option.some Jvm.ClassFile.FieldType.long)) ∈ TB := tbm_5 (List.mem_of_getElem? (i := 155) (rfl))
theorem tb_5_156 : (Jvm.Cond.methodLink "CheriCoreModel" (70 : Nat) ({ cls := "CheriCoreModel", name := "roof", desc := "(I)I" } : Jvm.MethodName)) ∈ TB := tbm_5 (List.mem_of_getElem? (i := 156) (by decide +kernel))
theorem tb_5_157 : (Jvm.Cond.static ({ cls := "CheriCoreModel", name := "roof", desc := "(I)I" } : Jvm.MethodName)) ∈ TB := tbm_5 (List.mem_of_getElem? (i := 157) (by decide +kernel))
theorem tb_5_158 : (Jvm.Cond.code ({ cls := "CheriCoreModel", name := "roof", desc := "(I)I" } : Jvm.MethodName) prog_13_method_11_code (5 : Nat) (Option.some Jvm.ClassFile.FieldType.int)) ∈ TB := tbm_5 (List.mem_of_getElem? (i := 158) (rfl))
theorem tb_5_159 : (Jvm.Cond.constantLong "CheriCoreModel" (73 : Nat) (8589934591 : Int64)) ∈ TB := tbm_5 (List.mem_of_getElem? (i := 159) (by decide +kernel))
theorem tb_5_16 : (Jvm.Cond.static ({ cls := "CheriCoreLaw", name := "count", desc := "(LCheriCore;I[J)I" } : Jvm.MethodName)) ∈ TB := tbm_5 (List.mem_of_getElem? (i := 16) (by decide +kernel))
theorem tb_5_160 : (Jvm.Cond.methodLink "CheriCoreLaw" (69 : Nat) ({ cls := "CheriCoreModel", name := "put", desc := "(III)V" } : Jvm.MethodName)) ∈ TB := tbm_5 (List.mem_of_getElem? (i := 160) (by decide +kernel))
theorem tb_5_161 : (Jvm.Cond.instanceMethod ({ cls := "CheriCoreModel", name := "put", desc := "(III)V" } : Jvm.MethodName)) ∈ TB := tbm_5 (List.mem_of_getElem? (i := 161) (by decide +kernel))
theorem tb_5_162 : (Jvm.Cond.selects "CheriCoreModel" ({ cls := "CheriCoreModel", name := "put", desc := "(III)V" } : Jvm.MethodName) ({ cls := "CheriCoreModel", name := "put", desc := "(III)V" } : Jvm.MethodName)) ∈ TB := tbm_5 (List.mem_of_getElem? (i := 162) (by decide +kernel))
theorem tb_5_163 : (Jvm.Cond.code ({ cls := "CheriCoreModel", name := "put", desc := "(III)V" } : Jvm.MethodName) prog_13_method_48_code (4 : Nat) (Option.none : Option Jvm.ClassFile.FieldType)) ∈ TB := tbm_5 (List.mem_of_getElem? (i := 163) (rfl))
theorem tb_5_164 : (Jvm.Cond.methodLink "CheriCoreLaw" (73 : Nat) ({ cls := "CheriCoreModel", name := "run", desc := "(I)I" } : Jvm.MethodName)) ∈ TB := tbm_5 (List.mem_of_getElem? (i := 164) (by decide +kernel))
theorem tb_5_165 : (Jvm.Cond.instanceMethod ({ cls := "CheriCoreModel", name := "run", desc := "(I)I" } : Jvm.MethodName)) ∈ TB := tbm_5 (List.mem_of_getElem? (i := 165) (by decide +kernel))
theorem tb_5_166 : (Jvm.Cond.selects "CheriCoreModel" ({ cls := "CheriCoreModel", name := "run", desc := "(I)I" } : Jvm.MethodName) ({ cls := "CheriCoreModel", name := "run", desc := "(I)I" } : Jvm.MethodName)) ∈ TB := tbm_5 (List.mem_of_getElem? (i := 166) (by decide +kernel))
theorem tb_5_167 : (Jvm.Cond.code ({ cls := "CheriCoreModel", name := "run", desc := "(I)I" } : Jvm.MethodName) prog_13_method_49_code (3 : Nat) (Option.some Jvm.ClassFile.FieldType.int)) ∈ TB := tbm_5 (List.mem_of_getElem? (i := 167) (rfl))
theorem tb_5_168 : (Jvm.Cond.methodLink "CheriCoreModel" (252 : Nat) ({ cls := "CheriCoreModel", name := "step", desc := "()V" } : Jvm.MethodName)) ∈ TB := tbm_5 (List.mem_of_getElem? (i := 168) (by decide +kernel))
theorem tb_5_170 : (Jvm.Cond.instanceMethod ({ cls := "CheriCoreModel", name := "step", desc := "()V" } : Jvm.MethodName)) ∈ TB := tbm_5 (List.mem_of_getElem? (i := 170) (by decide +kernel))
theorem tb_5_171 : (Jvm.Cond.code ({ cls := "CheriCoreModel", name := "step", desc := "()V" } : Jvm.MethodName) prog_13_method_30_code (2 : Nat) (Option.none : Option Jvm.ClassFile.FieldType)) ∈ TB := tbm_5 (List.mem_of_getElem? (i := 171) (rfl))
theorem tb_5_172 : (Jvm.Cond.methodLink "CheriCoreModel" (152 : Nat) ({ cls := "CheriCoreModel", name := "stop", desc := "()I" } : Jvm.MethodName)) ∈ TB := tbm_5 (List.mem_of_getElem? (i := 172) (by decide +kernel))
theorem tb_5_174 : (Jvm.Cond.instanceMethod ({ cls := "CheriCoreModel", name := "stop", desc := "()I" } : Jvm.MethodName)) ∈ TB := tbm_5 (List.mem_of_getElem? (i := 174) (by decide +kernel))
theorem tb_5_175 : (Jvm.Cond.code ({ cls := "CheriCoreModel", name := "stop", desc := "()I" } : Jvm.MethodName) prog_13_method_27_code (3 : Nat) (Option.some Jvm.ClassFile.FieldType.int)) ∈ TB := tbm_5 (List.mem_of_getElem? (i := 175) (rfl))
theorem tb_5_176 : (Jvm.Cond.methodLink "CheriCoreModel" (130 : Nat) ({ cls := "CheriCoreModel", name := "reach", desc := "(IJIII)I" } : Jvm.MethodName)) ∈ TB := tbm_5 (List.mem_of_getElem? (i := 176) (by decide +kernel))
theorem tb_5_178 : (Jvm.Cond.instanceMethod ({ cls := "CheriCoreModel", name := "reach", desc := "(IJIII)I" } : Jvm.MethodName)) ∈ TB := tbm_5 (List.mem_of_getElem? (i := 178) (by decide +kernel))
theorem tb_5_179 : (Jvm.Cond.code ({ cls := "CheriCoreModel", name := "reach", desc := "(IJIII)I" } : Jvm.MethodName) prog_13_method_26_code (7 : Nat) (Option.some Jvm.ClassFile.FieldType.int)) ∈ TB := tbm_5 (List.mem_of_getElem? (i := 179) (rfl))
theorem tb_5_18 : (Jvm.Cond.methodLink "CheriCoreLaw" (41 : Nat) ({ cls := "CheriCore", name := "count", desc := "(I)I" } : Jvm.MethodName)) ∈ TB := tbm_5 (List.mem_of_getElem? (i := 18) (by decide +kernel))
theorem tb_5_180 : (Jvm.Cond.methodLink "CheriCoreModel" (118 : Nat) ({ cls := "CheriCoreModel", name := "isOpen", desc := "(I)Z" } : Jvm.MethodName)) ∈ TB := tbm_5 (List.mem_of_getElem? (i := 180) (by decide +kernel))
theorem tb_5_182 : (Jvm.Cond.instanceMethod ({ cls := "CheriCoreModel", name := "isOpen", desc := "(I)Z" } : Jvm.MethodName)) ∈ TB := tbm_5 (List.mem_of_getElem? (i := 182) (by decide +kernel))
theorem tb_5_183 : (Jvm.Cond.code ({ cls := "CheriCoreModel", name := "isOpen", desc := "(I)Z" } : Jvm.MethodName) prog_13_method_24_code (2 : Nat) (Option.some Jvm.ClassFile.FieldType.boolean)) ∈ TB := tbm_5 (List.mem_of_getElem? (i := 183) (rfl))
theorem tb_5_184 : (Jvm.Cond.methodLink "CheriCoreModel" (104 : Nat) ({ cls := "CheriCoreModel", name := "type", desc := "(I)I" } : Jvm.MethodName)) ∈ TB := tbm_5 (List.mem_of_getElem? (i := 184) (by decide +kernel))
theorem tb_5_185 : (Jvm.Cond.static ({ cls := "CheriCoreModel", name := "type", desc := "(I)I" } : Jvm.MethodName)) ∈ TB := tbm_5 (List.mem_of_getElem? (i := 185) (by decide +kernel))
theorem tb_5_186 : (Jvm.Cond.code ({ cls := "CheriCoreModel", name := "type", desc := "(I)I" } : Jvm.MethodName) prog_13_method_6_code (1 : Nat) (Option.some Jvm.ClassFile.FieldType.int)) ∈ TB := tbm_5 (List.mem_of_getElem? (i := 186) (rfl))
theorem tb_5_187 : (Jvm.Cond.methodLink "CheriCoreModel" (122 : Nat) ({ cls := "CheriCoreModel", name := "has", desc := "(II)Z" } : Jvm.MethodName)) ∈ TB := tbm_5 (List.mem_of_getElem? (i := 187) (by decide +kernel))
theorem tb_5_189 : (Jvm.Cond.instanceMethod ({ cls := "CheriCoreModel", name := "has", desc := "(II)Z" } : Jvm.MethodName)) ∈ TB := tbm_5 (List.mem_of_getElem? (i := 189) (by decide +kernel))
theorem tb_5_19 : (Jvm.Cond.instanceMethod ({ cls := "CheriCore", name := "count", desc := "(I)I" } : Jvm.MethodName)) ∈ TB := tbm_5 (List.mem_of_getElem? (i := 19) (by decide +kernel))
theorem tb_5_190 : (Jvm.Cond.code ({ cls := "CheriCoreModel", name := "has", desc := "(II)Z" } : Jvm.MethodName) prog_13_method_23_code (3 : Nat) (Option.some Jvm.ClassFile.FieldType.boolean)) ∈ TB := tbm_5 (List.mem_of_getElem? (i := 190) (rfl))
theorem tb_5_191 : (Jvm.Cond.methodLink "CheriCoreModel" (111 : Nat) ({ cls := "CheriCoreModel", name := "perms", desc := "(I)I" } : Jvm.MethodName)) ∈ TB := tbm_5 (List.mem_of_getElem? (i := 191) (by decide +kernel))
theorem tb_5_192 : (Jvm.Cond.static ({ cls := "CheriCoreModel", name := "perms", desc := "(I)I" } : Jvm.MethodName)) ∈ TB := tbm_5 (List.mem_of_getElem? (i := 192) (by decide +kernel))
theorem tb_5_193 : (Jvm.Cond.code ({ cls := "CheriCoreModel", name := "perms", desc := "(I)I" } : Jvm.MethodName) prog_13_method_5_code (1 : Nat) (Option.some Jvm.ClassFile.FieldType.int)) ∈ TB := tbm_5 (List.mem_of_getElem? (i := 193) (rfl))
theorem tb_5_194 : (Jvm.Cond.methodLink "CheriCoreModel" (126 : Nat) ({ cls := "CheriCoreModel", name := "holds", desc := "(IJI)Z" } : Jvm.MethodName)) ∈ TB := tbm_5 (List.mem_of_getElem? (i := 194) (by decide +kernel))
theorem tb_5_196 : (Jvm.Cond.instanceMethod ({ cls := "CheriCoreModel", name := "holds", desc := "(IJI)Z" } : Jvm.MethodName)) ∈ TB := tbm_5 (List.mem_of_getElem? (i := 196) (by decide +kernel))
theorem tb_5_197 : (Jvm.Cond.code ({ cls := "CheriCoreModel", name := "holds", desc := "(IJI)Z" } : Jvm.MethodName) prog_13_method_25_code (5 : Nat) (Option.some Jvm.ClassFile.FieldType.boolean)) ∈ TB := tbm_5 (List.mem_of_getElem? (i := 197) (rfl))
theorem tb_5_198 : (Jvm.Cond.methodLink "CheriCoreModel" (114 : Nat) ({ cls := "CheriCoreModel", name := "isIn", desc := "(IIJI)Z" } : Jvm.MethodName)) ∈ TB := tbm_5 (List.mem_of_getElem? (i := 198) (by decide +kernel))
theorem tb_5_199 : (Jvm.Cond.static ({ cls := "CheriCoreModel", name := "isIn", desc := "(IIJI)Z" } : Jvm.MethodName)) ∈ TB := tbm_5 (List.mem_of_getElem? (i := 199) (by decide +kernel))
theorem tb_5_2 : (Jvm.Cond.static ({ cls := "CheriCoreLaw", name := "memory", desc := "(LCheriCore;I[J)I" } : Jvm.MethodName)) ∈ TB := tbm_5 (List.mem_of_getElem? (i := 2) (by decide +kernel))
theorem tb_5_20 : (Jvm.Cond.selects "CheriCore" ({ cls := "CheriCore", name := "count", desc := "(I)I" } : Jvm.MethodName) ({ cls := "CheriCore", name := "count", desc := "(I)I" } : Jvm.MethodName)) ∈ TB := tbm_5 (List.mem_of_getElem? (i := 20) (by decide +kernel))
theorem tb_5_200 : (Jvm.Cond.code ({ cls := "CheriCoreModel", name := "isIn", desc := "(IIJI)Z" } : Jvm.MethodName) prog_13_method_16_code (5 : Nat) (Option.some Jvm.ClassFile.FieldType.boolean)) ∈ TB := tbm_5 (List.mem_of_getElem? (i := 200) (rfl))
theorem tb_5_201 : (Jvm.Cond.constantLong "CheriCoreModel" (137 : Nat) (16384 : Int64)) ∈ TB := tbm_5 (List.mem_of_getElem? (i := 201) (by decide +kernel))
theorem tb_5_202 : (Jvm.Cond.methodLink "CheriCoreModel" (159 : Nat) ({ cls := "CheriCoreModel", name := "trap", desc := "(II)Z" } : Jvm.MethodName)) ∈ TB := tbm_5 (List.mem_of_getElem? (i := 202) (by decide +kernel))
theorem tb_5_204 : (Jvm.Cond.instanceMethod ({ cls := "CheriCoreModel", name := "trap", desc := "(II)Z" } : Jvm.MethodName)) ∈ TB := tbm_5 (List.mem_of_getElem? (i := 204) (by decide +kernel))
theorem tb_5_205 : (Jvm.Cond.code ({ cls := "CheriCoreModel", name := "trap", desc := "(II)Z" } : Jvm.MethodName) prog_13_method_28_code (3 : Nat) (Option.some Jvm.ClassFile.FieldType.boolean)) ∈ TB := tbm_5 (List.mem_of_getElem? (i := 205) (rfl))
theorem tb_5_206 : (Jvm.Cond.methodLink "CheriCoreModel" (139 : Nat) ({ cls := "CheriCoreModel", name := "copy", desc := "(II)V" } : Jvm.MethodName)) ∈ TB := tbm_5 (List.mem_of_getElem? (i := 206) (by decide +kernel))
theorem tb_5_208 : (Jvm.Cond.instanceMethod ({ cls := "CheriCoreModel", name := "copy", desc := "(II)V" } : Jvm.MethodName)) ∈ TB := tbm_5 (List.mem_of_getElem? (i := 208) (by decide +kernel))
theorem tb_5_209 : (Jvm.Cond.code ({ cls := "CheriCoreModel", name := "copy", desc := "(II)V" } : Jvm.MethodName) prog_13_method_20_code (3 : Nat) (Option.none : Option Jvm.ClassFile.FieldType)) ∈ TB := tbm_5 (List.mem_of_getElem? (i := 209) (rfl))
theorem tb_5_21 : (Jvm.Cond.code ({ cls := "CheriCore", name := "count", desc := "(I)I" } : Jvm.MethodName) prog_1_method_9_code (2 : Nat) (Option.some Jvm.ClassFile.FieldType.int)) ∈ TB := tbm_5 (List.mem_of_getElem? (i := 21) (rfl))
theorem tb_5_210 : (Jvm.Cond.methodLink "CheriCoreModel" (165 : Nat) ({ cls := "CheriCoreModel", name := "instruction", desc := "(I)Z" } : Jvm.MethodName)) ∈ TB := tbm_5 (List.mem_of_getElem? (i := 210) (by decide +kernel))
theorem tb_5_212 : (Jvm.Cond.instanceMethod ({ cls := "CheriCoreModel", name := "instruction", desc := "(I)Z" } : Jvm.MethodName)) ∈ TB := tbm_5 (List.mem_of_getElem? (i := 212) (by decide +kernel))
theorem tb_5_213 : (Jvm.Cond.code ({ cls := "CheriCoreModel", name := "instruction", desc := "(I)Z" } : Jvm.MethodName) prog_13_method_31_code (11 : Nat) (Option.some Jvm.ClassFile.FieldType.boolean)) ∈ TB := tbm_5 (List.mem_of_getElem? (i := 213) (rfl))
theorem tb_5_214 : (Jvm.Cond.methodLink "CheriCoreModel" (172 : Nat) ({ cls := "CheriCoreModel", name := "number", desc := "(II)V" } : Jvm.MethodName)) ∈ TB := tbm_5 (List.mem_of_getElem? (i := 214) (by decide +kernel))
theorem tb_5_216 : (Jvm.Cond.instanceMethod ({ cls := "CheriCoreModel", name := "number", desc := "(II)V" } : Jvm.MethodName)) ∈ TB := tbm_5 (List.mem_of_getElem? (i := 216) (by decide +kernel))
theorem tb_5_217 : (Jvm.Cond.code ({ cls := "CheriCoreModel", name := "number", desc := "(II)V" } : Jvm.MethodName) prog_13_method_21_code (3 : Nat) (Option.none : Option Jvm.ClassFile.FieldType)) ∈ TB := tbm_5 (List.mem_of_getElem? (i := 217) (rfl))
theorem tb_5_218 : (Jvm.Cond.methodLink "CheriCoreModel" (168 : Nat) ({ cls := "CheriCoreModel", name := "moved", desc := "(III)V" } : Jvm.MethodName)) ∈ TB := tbm_5 (List.mem_of_getElem? (i := 218) (by decide +kernel))
theorem tb_5_22 : (Jvm.Cond.methodLink "CheriCore" (181 : Nat) ({ cls := "CheriCore$Memory", name := "tagsHeld", desc := "()I" } : Jvm.MethodName)) ∈ TB := tbm_5 (List.mem_of_getElem? (i := 22) (by decide +kernel))
theorem tb_5_220 : (Jvm.Cond.instanceMethod ({ cls := "CheriCoreModel", name := "moved", desc := "(III)V" } : Jvm.MethodName)) ∈ TB := tbm_5 (List.mem_of_getElem? (i := 220) (by decide +kernel))
theorem tb_5_221 : (Jvm.Cond.code ({ cls := "CheriCoreModel", name := "moved", desc := "(III)V" } : Jvm.MethodName) prog_13_method_22_code (4 : Nat) (Option.none : Option Jvm.ClassFile.FieldType)) ∈ TB := tbm_5 (List.mem_of_getElem? (i := 221) (rfl))
theorem tb_5_222 : (Jvm.Cond.methodLink "CheriCoreModel" (107 : Nat) ({ cls := "CheriCoreModel", name := "same", desc := "(III)Z" } : Jvm.MethodName)) ∈ TB := tbm_5 (List.mem_of_getElem? (i := 222) (by decide +kernel))
theorem tb_5_224 : (Jvm.Cond.instanceMethod ({ cls := "CheriCoreModel", name := "same", desc := "(III)Z" } : Jvm.MethodName)) ∈ TB := tbm_5 (List.mem_of_getElem? (i := 224) (by decide +kernel))
theorem tb_5_225 : (Jvm.Cond.code ({ cls := "CheriCoreModel", name := "same", desc := "(III)Z" } : Jvm.MethodName) prog_13_method_17_code (4 : Nat) (Option.some Jvm.ClassFile.FieldType.boolean)) ∈ TB := tbm_5 (List.mem_of_getElem? (i := 225) (rfl))
theorem tb_5_226 : (Jvm.Cond.constant "CheriCoreModel" (175 : Nat) (1044480 : Int32)) ∈ TB := tbm_5 (List.mem_of_getElem? (i := 226) (by decide +kernel))
theorem tb_5_227 : (Jvm.Cond.methodLink "CheriCoreModel" (176 : Nat) ({ cls := "CheriCoreModel", name := "link", desc := "()V" } : Jvm.MethodName)) ∈ TB := tbm_5 (List.mem_of_getElem? (i := 227) (by decide +kernel))
theorem tb_5_229 : (Jvm.Cond.instanceMethod ({ cls := "CheriCoreModel", name := "link", desc := "()V" } : Jvm.MethodName)) ∈ TB := tbm_5 (List.mem_of_getElem? (i := 229) (by decide +kernel))
theorem tb_5_23 : (Jvm.Cond.instanceMethod ({ cls := "CheriCore$Memory", name := "tagsHeld", desc := "()I" } : Jvm.MethodName)) ∈ TB := tbm_5 (List.mem_of_getElem? (i := 23) (by decide +kernel))
theorem tb_5_230 : (Jvm.Cond.code ({ cls := "CheriCoreModel", name := "link", desc := "()V" } : Jvm.MethodName) prog_13_method_33_code (1 : Nat) (Option.none : Option Jvm.ClassFile.FieldType)) ∈ TB := tbm_5 (List.mem_of_getElem? (i := 230) (rfl))
theorem tb_5_231 : (Jvm.Cond.methodLink "CheriCoreModel" (204 : Nat) ({ cls := "CheriCoreModel", name := "withType", desc := "(II)I" } : Jvm.MethodName)) ∈ TB := tbm_5 (List.mem_of_getElem? (i := 231) (by decide +kernel))
theorem tb_5_232 : (Jvm.Cond.static ({ cls := "CheriCoreModel", name := "withType", desc := "(II)I" } : Jvm.MethodName)) ∈ TB := tbm_5 (List.mem_of_getElem? (i := 232) (by decide +kernel))
theorem tb_5_233 : (Jvm.Cond.code ({ cls := "CheriCoreModel", name := "withType", desc := "(II)I" } : Jvm.MethodName) prog_13_method_7_code (2 : Nat) (Option.some Jvm.ClassFile.FieldType.int)) ∈ TB := tbm_5 (List.mem_of_getElem? (i := 233) (rfl))
theorem tb_5_234 : (Jvm.Cond.constant "CheriCoreModel" (43 : Nat) (-983041 : Int32)) ∈ TB := tbm_5 (List.mem_of_getElem? (i := 234) (by decide +kernel))
theorem tb_5_235 : (Jvm.Cond.methodLink "CheriCoreModel" (179 : Nat) ({ cls := "CheriCoreModel", name := "jump", desc := "(I)Z" } : Jvm.MethodName)) ∈ TB := tbm_5 (List.mem_of_getElem? (i := 235) (by decide +kernel))
theorem tb_5_237 : (Jvm.Cond.instanceMethod ({ cls := "CheriCoreModel", name := "jump", desc := "(I)Z" } : Jvm.MethodName)) ∈ TB := tbm_5 (List.mem_of_getElem? (i := 237) (by decide +kernel))
theorem tb_5_238 : (Jvm.Cond.code ({ cls := "CheriCoreModel", name := "jump", desc := "(I)Z" } : Jvm.MethodName) prog_13_method_34_code (2 : Nat) (Option.some Jvm.ClassFile.FieldType.boolean)) ∈ TB := tbm_5 (List.mem_of_getElem? (i := 238) (rfl))
theorem tb_5_239 : (Jvm.Cond.methodLink "CheriCoreModel" (182 : Nat) ({ cls := "CheriCoreModel", name := "jumpBy", desc := "(IIII)Z" } : Jvm.MethodName)) ∈ TB := tbm_5 (List.mem_of_getElem? (i := 239) (by decide +kernel))
theorem tb_5_24 : (Jvm.Cond.selects "CheriCore$Memory" ({ cls := "CheriCore$Memory", name := "tagsHeld", desc := "()I" } : Jvm.MethodName) ({ cls := "CheriCore$Memory", name := "tagsHeld", desc := "()I" } : Jvm.MethodName)) ∈ TB := tbm_5 (List.mem_of_getElem? (i := 24) (by decide +kernel))
theorem tb_5_25 : (Jvm.Cond.code ({ cls := "CheriCore$Memory", name := "tagsHeld", desc := "()I" } : Jvm.MethodName) prog_7_method_8_code (3 : Nat) (Option.some Jvm.ClassFile.FieldType.int)) ∈ TB := tbm_5 (List.mem_of_getElem? (i := 25) (rfl))
theorem tb_5_27 : (Jvm.Cond.methodLink "CheriCoreLaw" (88 : Nat) ({ cls := "CheriCoreLaw", name := "pack", desc := "(LCheriCore;IJ[J)I" } : Jvm.MethodName)) ∈ TB := tbm_5 (List.mem_of_getElem? (i := 27) (by decide +kernel))
theorem tb_5_28 : (Jvm.Cond.static ({ cls := "CheriCoreLaw", name := "pack", desc := "(LCheriCore;IJ[J)I" } : Jvm.MethodName)) ∈ TB := tbm_5 (List.mem_of_getElem? (i := 28) (by decide +kernel))
theorem tb_5_30 : (Jvm.Cond.methodLink "CheriCoreLaw" (44 : Nat) ({ cls := "CheriCore", name := "pack", desc := "(IJ)I" } : Jvm.MethodName)) ∈ TB := tbm_5 (List.mem_of_getElem? (i := 30) (by decide +kernel))
theorem tb_5_31 : (Jvm.Cond.instanceMethod ({ cls := "CheriCore", name := "pack", desc := "(IJ)I" } : Jvm.MethodName)) ∈ TB := tbm_5 (List.mem_of_getElem? (i := 31) (by decide +kernel))
theorem tb_5_32 : (Jvm.Cond.selects "CheriCore" ({ cls := "CheriCore", name := "pack", desc := "(IJ)I" } : Jvm.MethodName) ({ cls := "CheriCore", name := "pack", desc := "(IJ)I" } : Jvm.MethodName)) ∈ TB := tbm_5 (List.mem_of_getElem? (i := 32) (by decide +kernel))
theorem tb_5_33 : (Jvm.Cond.code ({ cls := "CheriCore", name := "pack", desc := "(IJ)I" } : Jvm.MethodName) prog_1_method_10_code (6 : Nat) (Option.some Jvm.ClassFile.FieldType.int)) ∈ TB := tbm_5 (List.mem_of_getElem? (i := 33) (rfl))
theorem tb_5_35 : (Jvm.Cond.constant "CheriCore" (191 : Nat) (32768 : Int32)) ∈ TB := tbm_5 (List.mem_of_getElem? (i := 35) (by decide +kernel))
theorem tb_5_36 : (Jvm.Cond.classLink "CheriCoreLaw" (49 : Nat) "CheriCoreModel") ∈ TB := tbm_5 (List.mem_of_getElem? (i := 36) (by decide +kernel))
theorem tb_5_37 : (Jvm.Cond.instantiable "CheriCoreModel" (19 : Nat)) ∈ TB := tbm_5 (List.mem_of_getElem? (i := 37) (by decide +kernel))
theorem tb_5_38 : (Jvm.Cond.methodLink "CheriCoreLaw" (51 : Nat) ({ cls := "CheriCoreModel", name := "<init>", desc := "()V" } : Jvm.MethodName)) ∈ TB := tbm_5 (List.mem_of_getElem? (i := 38) (by decide +kernel))
theorem tb_5_39 : (Jvm.Cond.instanceMethod ({ cls := "CheriCoreModel", name := "<init>", desc := "()V" } : Jvm.MethodName)) ∈ TB := tbm_5 (List.mem_of_getElem? (i := 39) (by decide +kernel))
theorem tb_5_4 : (Jvm.Cond.methodLink "CheriCoreLaw" (34 : Nat) ({ cls := "CheriCore", name := "memory", desc := "(I)I" } : Jvm.MethodName)) ∈ TB := tbm_5 (List.mem_of_getElem? (i := 4) (by decide +kernel))
theorem tb_5_40 : (Jvm.Cond.code ({ cls := "CheriCoreModel", name := "<init>", desc := "()V" } : Jvm.MethodName) prog_13_method_1_code (2 : Nat) (Option.none : Option Jvm.ClassFile.FieldType)) ∈ TB := tbm_5 (List.mem_of_getElem? (i := 40) (rfl))
theorem tb_5_41 : (Jvm.Cond.methodLink "CheriCoreModel" (1 : Nat) ({ cls := "java/lang/Object", name := "<init>", desc := "()V" } : Jvm.MethodName)) ∈ TB := tbm_5 (List.mem_of_getElem? (i := 41) (by decide +kernel))
theorem tb_5_42 : (Jvm.Cond.constant "CheriCoreModel" (36 : Nat) (1000194 : Int32)) ∈ TB := tbm_5 (List.mem_of_getElem? (i := 42) (by decide +kernel))
theorem tb_5_43 : (Jvm.Cond.fieldLink "CheriCoreModel" (7 : Nat) "CheriCoreModel" "tag" "[Z") ∈ TB := tbm_5 (List.mem_of_getElem? (i := 43) (by decide +kernel))
theorem tb_5_44 : (Jvm.Cond.fieldLink "CheriCoreModel" (13 : Nat) "CheriCoreModel" "address" "[I") ∈ TB := tbm_5 (List.mem_of_getElem? (i := 44) (by decide +kernel))
theorem tb_5_45 : (Jvm.Cond.fieldLink "CheriCoreModel" (17 : Nat) "CheriCoreModel" "meta" "[I") ∈ TB := tbm_5 (List.mem_of_getElem? (i := 45) (by decide +kernel))
theorem tb_5_46 : (Jvm.Cond.fieldLink "CheriCoreModel" (20 : Nat) "CheriCoreModel" "word" "[I") ∈ TB := tbm_5 (List.mem_of_getElem? (i := 46) (by decide +kernel))
theorem tb_5_47 : (Jvm.Cond.fieldLink "CheriCoreModel" (23 : Nat) "CheriCoreModel" "tags" "[Z") ∈ TB := tbm_5 (List.mem_of_getElem? (i := 47) (by decide +kernel))
theorem tb_5_48 : (Jvm.Cond.fieldLink "CheriCoreModel" (26 : Nat) "CheriCoreModel" "rootBase" "[J") ∈ TB := tbm_5 (List.mem_of_getElem? (i := 48) (by decide +kernel))
theorem tb_5_49 : (Jvm.Cond.fieldLink "CheriCoreModel" (30 : Nat) "CheriCoreModel" "rootTop" "[J") ∈ TB := tbm_5 (List.mem_of_getElem? (i := 49) (by decide +kernel))
theorem tb_5_5 : (Jvm.Cond.instanceMethod ({ cls := "CheriCore", name := "memory", desc := "(I)I" } : Jvm.MethodName)) ∈ TB := tbm_5 (List.mem_of_getElem? (i := 5) (by decide +kernel))
theorem tb_5_50 : (Jvm.Cond.fieldLink "CheriCoreModel" (33 : Nat) "CheriCoreModel" "rootPerms" "[I") ∈ TB := tbm_5 (List.mem_of_getElem? (i := 50) (by decide +kernel))
theorem tb_5_51 : (Jvm.Cond.fieldLink "CheriCoreModel" (248 : Nat) "CheriCoreModel" "roots" "I") ∈ TB := tbm_5 (List.mem_of_getElem? (i := 51) (by decide +kernel))
theorem tb_5_52 : (Jvm.Cond.fieldLink "CheriCoreModel" (143 : Nat) "CheriCoreModel" "cause" "I") ∈ TB := tbm_5 (List.mem_of_getElem? (i := 52) (by decide +kernel))
theorem tb_5_53 : (Jvm.Cond.fieldLink "CheriCoreModel" (146 : Nat) "CheriCoreModel" "value" "I") ∈ TB := tbm_5 (List.mem_of_getElem? (i := 53) (by decide +kernel))
theorem tb_5_54 : (Jvm.Cond.fieldLink "CheriCoreModel" (162 : Nat) "CheriCoreModel" "steps" "I") ∈ TB := tbm_5 (List.mem_of_getElem? (i := 54) (by decide +kernel))
theorem tb_5_55 : (Jvm.Cond.fieldLink "CheriCoreModel" (149 : Nat) "CheriCoreModel" "traps" "I") ∈ TB := tbm_5 (List.mem_of_getElem? (i := 55) (by decide +kernel))
theorem tb_5_56 : (Jvm.Cond.fieldLink "CheriCoreModel" (37 : Nat) "CheriCoreModel" "thrown" "I") ∈ TB := tbm_5 (List.mem_of_getElem? (i := 56) (by decide +kernel))
theorem tb_5_57 : (Jvm.Cond.fieldLink "CheriCoreModel" (156 : Nat) "CheriCoreModel" "halted" "Z") ∈ TB := tbm_5 (List.mem_of_getElem? (i := 57) (by decide +kernel))
theorem tb_5_58 : (Jvm.Cond.fieldLink "CheriCoreModel" (87 : Nat) "CheriCoreModel" "packed" "I") ∈ TB := tbm_5 (List.mem_of_getElem? (i := 58) (by decide +kernel))
theorem tb_5_59 : (Jvm.Cond.fieldLink "CheriCoreModel" (90 : Nat) "CheriCoreModel" "exact" "Z") ∈ TB := tbm_5 (List.mem_of_getElem? (i := 59) (by decide +kernel))
theorem tb_5_6 : (Jvm.Cond.selects "CheriCore" ({ cls := "CheriCore", name := "memory", desc := "(I)I" } : Jvm.MethodName) ({ cls := "CheriCore", name := "memory", desc := "(I)I" } : Jvm.MethodName)) ∈ TB := tbm_5 (List.mem_of_getElem? (i := 6) (by decide +kernel))
theorem tb_5_60 : (Jvm.Cond.fieldLink "CheriCoreModel" (94 : Nat) "CheriCoreModel" "rounded" "J") ∈ TB := tbm_5 (List.mem_of_getElem? (i := 60) (by decide +kernel))
theorem tb_5_61 : (Jvm.Cond.fieldLink "CheriCoreModel" (134 : Nat) "CheriCoreModel" "told" "I") ∈ TB := tbm_5 (List.mem_of_getElem? (i := 61) (by decide +kernel))
theorem tb_5_62 : (Jvm.Cond.laysFinal "CheriCoreModel" "CheriCoreModel" "tag" "[Z") ∈ TB := tbm_5 (List.mem_of_getElem? (i := 62) (by decide +kernel))
theorem tb_5_64 : (Jvm.Cond.laysFinal "CheriCoreModel" "CheriCoreModel" "address" "[I") ∈ TB := tbm_5 (List.mem_of_getElem? (i := 64) (by decide +kernel))
theorem tb_5_66 : (Jvm.Cond.laysFinal "CheriCoreModel" "CheriCoreModel" "meta" "[I") ∈ TB := tbm_5 (List.mem_of_getElem? (i := 66) (by decide +kernel))
theorem tb_5_68 : (Jvm.Cond.laysFinal "CheriCoreModel" "CheriCoreModel" "word" "[I") ∈ TB := tbm_5 (List.mem_of_getElem? (i := 68) (by decide +kernel))
theorem tb_5_7 : (Jvm.Cond.code ({ cls := "CheriCore", name := "memory", desc := "(I)I" } : Jvm.MethodName) prog_1_method_7_code (2 : Nat) (Option.some Jvm.ClassFile.FieldType.int)) ∈ TB := tbm_5 (List.mem_of_getElem? (i := 7) (rfl))
theorem tb_5_70 : (Jvm.Cond.laysFinal "CheriCoreModel" "CheriCoreModel" "tags" "[Z") ∈ TB := tbm_5 (List.mem_of_getElem? (i := 70) (by decide +kernel))
theorem tb_5_72 : (Jvm.Cond.laysFinal "CheriCoreModel" "CheriCoreModel" "rootBase" "[J") ∈ TB := tbm_5 (List.mem_of_getElem? (i := 72) (by decide +kernel))
theorem tb_5_74 : (Jvm.Cond.laysFinal "CheriCoreModel" "CheriCoreModel" "rootTop" "[J") ∈ TB := tbm_5 (List.mem_of_getElem? (i := 74) (by decide +kernel))
theorem tb_5_76 : (Jvm.Cond.laysFinal "CheriCoreModel" "CheriCoreModel" "rootPerms" "[I") ∈ TB := tbm_5 (List.mem_of_getElem? (i := 76) (by decide +kernel))
theorem tb_5_78 : (Jvm.Cond.lays "CheriCoreModel" "CheriCoreModel" "roots" "I") ∈ TB := tbm_5 (List.mem_of_getElem? (i := 78) (by decide +kernel))
theorem tb_5_8 : (Jvm.Cond.methodLink "CheriCoreLaw" (80 : Nat) ({ cls := "CheriCoreLaw", name := "tag", desc := "(LCheriCore;I[J)I" } : Jvm.MethodName)) ∈ TB := tbm_5 (List.mem_of_getElem? (i := 8) (by decide +kernel))
theorem tb_5_80 : (Jvm.Cond.lays "CheriCoreModel" "CheriCoreModel" "cause" "I") ∈ TB := tbm_5 (List.mem_of_getElem? (i := 80) (by decide +kernel))
theorem tb_5_82 : (Jvm.Cond.lays "CheriCoreModel" "CheriCoreModel" "value" "I") ∈ TB := tbm_5 (List.mem_of_getElem? (i := 82) (by decide +kernel))
theorem tb_5_84 : (Jvm.Cond.lays "CheriCoreModel" "CheriCoreModel" "steps" "I") ∈ TB := tbm_5 (List.mem_of_getElem? (i := 84) (by decide +kernel))
theorem tb_5_86 : (Jvm.Cond.lays "CheriCoreModel" "CheriCoreModel" "traps" "I") ∈ TB := tbm_5 (List.mem_of_getElem? (i := 86) (by decide +kernel))
theorem tb_5_88 : (Jvm.Cond.lays "CheriCoreModel" "CheriCoreModel" "thrown" "I") ∈ TB := tbm_5 (List.mem_of_getElem? (i := 88) (by decide +kernel))
theorem tb_5_9 : (Jvm.Cond.static ({ cls := "CheriCoreLaw", name := "tag", desc := "(LCheriCore;I[J)I" } : Jvm.MethodName)) ∈ TB := tbm_5 (List.mem_of_getElem? (i := 9) (by decide +kernel))
theorem tb_5_90 : (Jvm.Cond.lays "CheriCoreModel" "CheriCoreModel" "halted" "Z") ∈ TB := tbm_5 (List.mem_of_getElem? (i := 90) (by decide +kernel))
theorem tb_5_92 : (Jvm.Cond.lays "CheriCoreModel" "CheriCoreModel" "packed" "I") ∈ TB := tbm_5 (List.mem_of_getElem? (i := 92) (by decide +kernel))
theorem tb_5_94 : (Jvm.Cond.lays "CheriCoreModel" "CheriCoreModel" "exact" "Z") ∈ TB := tbm_5 (List.mem_of_getElem? (i := 94) (by decide +kernel))
theorem tb_5_96 : (Jvm.Cond.lays "CheriCoreModel" "CheriCoreModel" "rounded" "J") ∈ TB := tbm_5 (List.mem_of_getElem? (i := 96) (by decide +kernel))
theorem tb_5_98 : (Jvm.Cond.lays "CheriCoreModel" "CheriCoreModel" "told" "I") ∈ TB := tbm_5 (List.mem_of_getElem? (i := 98) (by decide +kernel))
theorem tb_6_1 : (Jvm.Cond.instanceMethod ({ cls := "CheriCoreModel", name := "jumpBy", desc := "(IIII)Z" } : Jvm.MethodName)) ∈ TB := tbm_6 (List.mem_of_getElem? (i := 1) (by decide +kernel))
theorem tb_6_10 : (Jvm.Cond.code ({ cls := "CheriCoreModel", name := "load", desc := "(IIII)Z" } : Jvm.MethodName) prog_13_method_36_code (8 : Nat) (Option.some Jvm.ClassFile.FieldType.boolean)) ∈ TB := tbm_6 (List.mem_of_getElem? (i := 10) (rfl))
theorem tb_6_11 : (Jvm.Cond.methodLink "CheriCoreModel" (189 : Nat) ({ cls := "CheriCoreModel", name := "store", desc := "(IIII)Z" } : Jvm.MethodName)) ∈ TB := tbm_6 (List.mem_of_getElem? (i := 11) (by decide +kernel))
theorem tb_6_13 : (Jvm.Cond.instanceMethod ({ cls := "CheriCoreModel", name := "store", desc := "(IIII)Z" } : Jvm.MethodName)) ∈ TB := tbm_6 (List.mem_of_getElem? (i := 13) (by decide +kernel))
theorem tb_6_14 : (Jvm.Cond.code ({ cls := "CheriCoreModel", name := "store", desc := "(IIII)Z" } : Jvm.MethodName) prog_13_method_37_code (9 : Nat) (Option.some Jvm.ClassFile.FieldType.boolean)) ∈ TB := tbm_6 (List.mem_of_getElem? (i := 14) (rfl))
theorem tb_6_15 : (Jvm.Cond.methodLink "CheriCoreModel" (192 : Nat) ({ cls := "CheriCoreModel", name := "operated", desc := "(IIIZ)I" } : Jvm.MethodName)) ∈ TB := tbm_6 (List.mem_of_getElem? (i := 15) (by decide +kernel))
theorem tb_6_16 : (Jvm.Cond.static ({ cls := "CheriCoreModel", name := "operated", desc := "(IIIZ)I" } : Jvm.MethodName)) ∈ TB := tbm_6 (List.mem_of_getElem? (i := 16) (by decide +kernel))
theorem tb_6_17 : (Jvm.Cond.code ({ cls := "CheriCoreModel", name := "operated", desc := "(IIIZ)I" } : Jvm.MethodName) prog_13_method_32_code (4 : Nat) (Option.some Jvm.ClassFile.FieldType.int)) ∈ TB := tbm_6 (List.mem_of_getElem? (i := 17) (rfl))
theorem tb_6_18 : (Jvm.Cond.methodLink "CheriCoreModel" (196 : Nat) ({ cls := "CheriCoreModel", name := "system", desc := "(IIIII)Z" } : Jvm.MethodName)) ∈ TB := tbm_6 (List.mem_of_getElem? (i := 18) (by decide +kernel))
theorem tb_6_2 : (Jvm.Cond.code ({ cls := "CheriCoreModel", name := "jumpBy", desc := "(IIII)Z" } : Jvm.MethodName) prog_13_method_35_code (5 : Nat) (Option.some Jvm.ClassFile.FieldType.boolean)) ∈ TB := tbm_6 (List.mem_of_getElem? (i := 2) (rfl))
theorem tb_6_20 : (Jvm.Cond.instanceMethod ({ cls := "CheriCoreModel", name := "system", desc := "(IIIII)Z" } : Jvm.MethodName)) ∈ TB := tbm_6 (List.mem_of_getElem? (i := 20) (by decide +kernel))
theorem tb_6_21 : (Jvm.Cond.code ({ cls := "CheriCoreModel", name := "system", desc := "(IIIII)Z" } : Jvm.MethodName) prog_13_method_38_code (11 : Nat) (Option.some Jvm.ClassFile.FieldType.boolean)) ∈ TB := tbm_6 (List.mem_of_getElem? (i := 21) (rfl))
theorem tb_6_22 : (Jvm.Cond.constant "CheriCoreModel" (211 : Nat) (1048691 : Int32)) ∈ TB := tbm_6 (List.mem_of_getElem? (i := 22) (by decide +kernel))
theorem tb_6_23 : (Jvm.Cond.constant "CheriCoreModel" (212 : Nat) (807403635 : Int32)) ∈ TB := tbm_6 (List.mem_of_getElem? (i := 23) (by decide +kernel))
theorem tb_6_24 : (Jvm.Cond.methodLink "CheriCoreModel" (200 : Nat) ({ cls := "CheriCoreModel", name := "special", desc := "(IIIIII)Z" } : Jvm.MethodName)) ∈ TB := tbm_6 (List.mem_of_getElem? (i := 24) (by decide +kernel))
theorem tb_6_26 : (Jvm.Cond.instanceMethod ({ cls := "CheriCoreModel", name := "special", desc := "(IIIIII)Z" } : Jvm.MethodName)) ∈ TB := tbm_6 (List.mem_of_getElem? (i := 26) (by decide +kernel))
theorem tb_6_27 : (Jvm.Cond.code ({ cls := "CheriCoreModel", name := "special", desc := "(IIIIII)Z" } : Jvm.MethodName) prog_13_method_42_code (13 : Nat) (Option.some Jvm.ClassFile.FieldType.boolean)) ∈ TB := tbm_6 (List.mem_of_getElem? (i := 27) (rfl))
theorem tb_6_28 : (Jvm.Cond.methodLink "CheriCoreModel" (217 : Nat) ({ cls := "CheriCoreModel", name := "bounds", desc := "(IIJZ)Z" } : Jvm.MethodName)) ∈ TB := tbm_6 (List.mem_of_getElem? (i := 28) (by decide +kernel))
theorem tb_6_3 : (Jvm.Cond.methodLink "CheriCoreModel" (208 : Nat) ({ cls := "CheriCoreModel", name := "broken", desc := "(II)Z" } : Jvm.MethodName)) ∈ TB := tbm_6 (List.mem_of_getElem? (i := 3) (by decide +kernel))
theorem tb_6_30 : (Jvm.Cond.instanceMethod ({ cls := "CheriCoreModel", name := "bounds", desc := "(IIJZ)Z" } : Jvm.MethodName)) ∈ TB := tbm_6 (List.mem_of_getElem? (i := 30) (by decide +kernel))
theorem tb_6_31 : (Jvm.Cond.code ({ cls := "CheriCoreModel", name := "bounds", desc := "(IIJZ)Z" } : Jvm.MethodName) prog_13_method_39_code (11 : Nat) (Option.some Jvm.ClassFile.FieldType.boolean)) ∈ TB := tbm_6 (List.mem_of_getElem? (i := 31) (rfl))
theorem tb_6_32 : (Jvm.Cond.constantLong "CheriCoreModel" (221 : Nat) (12 : Int64)) ∈ TB := tbm_6 (List.mem_of_getElem? (i := 32) (by decide +kernel))
theorem tb_6_33 : (Jvm.Cond.methodLink "CheriCoreModel" (223 : Nat) ({ cls := "CheriCoreModel", name := "withPerms", desc := "(II)I" } : Jvm.MethodName)) ∈ TB := tbm_6 (List.mem_of_getElem? (i := 33) (by decide +kernel))
theorem tb_6_34 : (Jvm.Cond.static ({ cls := "CheriCoreModel", name := "withPerms", desc := "(II)I" } : Jvm.MethodName)) ∈ TB := tbm_6 (List.mem_of_getElem? (i := 34) (by decide +kernel))
theorem tb_6_35 : (Jvm.Cond.code ({ cls := "CheriCoreModel", name := "withPerms", desc := "(II)I" } : Jvm.MethodName) prog_13_method_8_code (2 : Nat) (Option.some Jvm.ClassFile.FieldType.int)) ∈ TB := tbm_6 (List.mem_of_getElem? (i := 35) (rfl))
theorem tb_6_36 : (Jvm.Cond.constant "CheriCoreModel" (44 : Nat) (1048575 : Int32)) ∈ TB := tbm_6 (List.mem_of_getElem? (i := 36) (by decide +kernel))
theorem tb_6_37 : (Jvm.Cond.methodLink "CheriCoreModel" (226 : Nat) ({ cls := "CheriCoreModel", name := "isWithin", desc := "(II)Z" } : Jvm.MethodName)) ∈ TB := tbm_6 (List.mem_of_getElem? (i := 37) (by decide +kernel))
theorem tb_6_39 : (Jvm.Cond.instanceMethod ({ cls := "CheriCoreModel", name := "isWithin", desc := "(II)Z" } : Jvm.MethodName)) ∈ TB := tbm_6 (List.mem_of_getElem? (i := 39) (by decide +kernel))
theorem tb_6_40 : (Jvm.Cond.code ({ cls := "CheriCoreModel", name := "isWithin", desc := "(II)Z" } : Jvm.MethodName) prog_13_method_40_code (3 : Nat) (Option.some Jvm.ClassFile.FieldType.boolean)) ∈ TB := tbm_6 (List.mem_of_getElem? (i := 40) (rfl))
theorem tb_6_41 : (Jvm.Cond.methodLink "CheriCoreModel" (229 : Nat) ({ cls := "CheriCoreModel", name := "isAmong", desc := "(II)Z" } : Jvm.MethodName)) ∈ TB := tbm_6 (List.mem_of_getElem? (i := 41) (by decide +kernel))
theorem tb_6_43 : (Jvm.Cond.instanceMethod ({ cls := "CheriCoreModel", name := "isAmong", desc := "(II)Z" } : Jvm.MethodName)) ∈ TB := tbm_6 (List.mem_of_getElem? (i := 43) (by decide +kernel))
theorem tb_6_44 : (Jvm.Cond.code ({ cls := "CheriCoreModel", name := "isAmong", desc := "(II)Z" } : Jvm.MethodName) prog_13_method_41_code (3 : Nat) (Option.some Jvm.ClassFile.FieldType.boolean)) ∈ TB := tbm_6 (List.mem_of_getElem? (i := 44) (rfl))
theorem tb_6_45 : (Jvm.Cond.methodLink "CheriCoreModel" (232 : Nat) ({ cls := "CheriCoreModel", name := "invoke", desc := "(II)Z" } : Jvm.MethodName)) ∈ TB := tbm_6 (List.mem_of_getElem? (i := 45) (by decide +kernel))
theorem tb_6_47 : (Jvm.Cond.instanceMethod ({ cls := "CheriCoreModel", name := "invoke", desc := "(II)Z" } : Jvm.MethodName)) ∈ TB := tbm_6 (List.mem_of_getElem? (i := 47) (by decide +kernel))
theorem tb_6_48 : (Jvm.Cond.code ({ cls := "CheriCoreModel", name := "invoke", desc := "(II)Z" } : Jvm.MethodName) prog_13_method_45_code (4 : Nat) (Option.some Jvm.ClassFile.FieldType.boolean)) ∈ TB := tbm_6 (List.mem_of_getElem? (i := 48) (rfl))
theorem tb_6_49 : (Jvm.Cond.methodLink "CheriCoreModel" (235 : Nat) ({ cls := "CheriCoreModel", name := "asked", desc := "(IIII)Z" } : Jvm.MethodName)) ∈ TB := tbm_6 (List.mem_of_getElem? (i := 49) (by decide +kernel))
theorem tb_6_5 : (Jvm.Cond.instanceMethod ({ cls := "CheriCoreModel", name := "broken", desc := "(II)Z" } : Jvm.MethodName)) ∈ TB := tbm_6 (List.mem_of_getElem? (i := 5) (by decide +kernel))
theorem tb_6_51 : (Jvm.Cond.instanceMethod ({ cls := "CheriCoreModel", name := "asked", desc := "(IIII)Z" } : Jvm.MethodName)) ∈ TB := tbm_6 (List.mem_of_getElem? (i := 51) (by decide +kernel))
theorem tb_6_52 : (Jvm.Cond.code ({ cls := "CheriCoreModel", name := "asked", desc := "(IIII)Z" } : Jvm.MethodName) prog_13_method_44_code (5 : Nat) (Option.some Jvm.ClassFile.FieldType.boolean)) ∈ TB := tbm_6 (List.mem_of_getElem? (i := 52) (rfl))
theorem tb_6_53 : (Jvm.Cond.methodLink "CheriCoreModel" (238 : Nat) ({ cls := "CheriCoreModel", name := "most", desc := "(J)I" } : Jvm.MethodName)) ∈ TB := tbm_6 (List.mem_of_getElem? (i := 53) (by decide +kernel))
theorem tb_6_54 : (Jvm.Cond.static ({ cls := "CheriCoreModel", name := "most", desc := "(J)I" } : Jvm.MethodName)) ∈ TB := tbm_6 (List.mem_of_getElem? (i := 54) (by decide +kernel))
theorem tb_6_55 : (Jvm.Cond.code ({ cls := "CheriCoreModel", name := "most", desc := "(J)I" } : Jvm.MethodName) prog_13_method_43_code (2 : Nat) (Option.some Jvm.ClassFile.FieldType.int)) ∈ TB := tbm_6 (List.mem_of_getElem? (i := 55) (rfl))
theorem tb_6_56 : (Jvm.Cond.methodLink "CheriCoreModel" (242 : Nat) ({ cls := "CheriCoreModel", name := "pack", desc := "(IJ)I" } : Jvm.MethodName)) ∈ TB := tbm_6 (List.mem_of_getElem? (i := 56) (by decide +kernel))
theorem tb_6_57 : (Jvm.Cond.instanceMethod ({ cls := "CheriCoreModel", name := "pack", desc := "(IJ)I" } : Jvm.MethodName)) ∈ TB := tbm_6 (List.mem_of_getElem? (i := 57) (by decide +kernel))
theorem tb_6_58 : (Jvm.Cond.selects "CheriCoreModel" ({ cls := "CheriCoreModel", name := "pack", desc := "(IJ)I" } : Jvm.MethodName) ({ cls := "CheriCoreModel", name := "pack", desc := "(IJ)I" } : Jvm.MethodName)) ∈ TB := tbm_6 (List.mem_of_getElem? (i := 58) (by decide +kernel))
theorem tb_6_59 : (Jvm.Cond.code ({ cls := "CheriCoreModel", name := "pack", desc := "(IJ)I" } : Jvm.MethodName) prog_13_method_54_code (4 : Nat) (Option.some Jvm.ClassFile.FieldType.int)) ∈ TB := tbm_6 (List.mem_of_getElem? (i := 59) (rfl))
theorem tb_6_6 : (Jvm.Cond.code ({ cls := "CheriCoreModel", name := "broken", desc := "(II)Z" } : Jvm.MethodName) prog_13_method_29_code (3 : Nat) (Option.some Jvm.ClassFile.FieldType.boolean)) ∈ TB := tbm_6 (List.mem_of_getElem? (i := 6) (rfl))
theorem tb_6_60 : (Jvm.Cond.constant "CheriCoreModel" (255 : Nat) (32768 : Int32)) ∈ TB := tbm_6 (List.mem_of_getElem? (i := 60) (by decide +kernel))
theorem tb_6_61 : (Jvm.Cond.methodLink "CheriCoreLaw" (76 : Nat) ({ cls := "CheriCoreModel", name := "told", desc := "(II)I" } : Jvm.MethodName)) ∈ TB := tbm_6 (List.mem_of_getElem? (i := 61) (by decide +kernel))
theorem tb_6_62 : (Jvm.Cond.instanceMethod ({ cls := "CheriCoreModel", name := "told", desc := "(II)I" } : Jvm.MethodName)) ∈ TB := tbm_6 (List.mem_of_getElem? (i := 62) (by decide +kernel))
theorem tb_6_63 : (Jvm.Cond.selects "CheriCoreModel" ({ cls := "CheriCoreModel", name := "told", desc := "(II)I" } : Jvm.MethodName) ({ cls := "CheriCoreModel", name := "told", desc := "(II)I" } : Jvm.MethodName)) ∈ TB := tbm_6 (List.mem_of_getElem? (i := 63) (by decide +kernel))
theorem tb_6_64 : (Jvm.Cond.code ({ cls := "CheriCoreModel", name := "told", desc := "(II)I" } : Jvm.MethodName) prog_13_method_50_code (5 : Nat) (Option.some Jvm.ClassFile.FieldType.int)) ∈ TB := tbm_6 (List.mem_of_getElem? (i := 64) (rfl))
theorem tb_6_65 : (Jvm.Cond.methodLink "CheriCoreLaw" (79 : Nat) ({ cls := "CheriCoreModel", name := "memory", desc := "(I)I" } : Jvm.MethodName)) ∈ TB := tbm_6 (List.mem_of_getElem? (i := 65) (by decide +kernel))
theorem tb_6_66 : (Jvm.Cond.instanceMethod ({ cls := "CheriCoreModel", name := "memory", desc := "(I)I" } : Jvm.MethodName)) ∈ TB := tbm_6 (List.mem_of_getElem? (i := 66) (by decide +kernel))
theorem tb_6_67 : (Jvm.Cond.selects "CheriCoreModel" ({ cls := "CheriCoreModel", name := "memory", desc := "(I)I" } : Jvm.MethodName) ({ cls := "CheriCoreModel", name := "memory", desc := "(I)I" } : Jvm.MethodName)) ∈ TB := tbm_6 (List.mem_of_getElem? (i := 67) (by decide +kernel))
theorem tb_6_68 : (Jvm.Cond.code ({ cls := "CheriCoreModel", name := "memory", desc := "(I)I" } : Jvm.MethodName) prog_13_method_51_code (2 : Nat) (Option.some Jvm.ClassFile.FieldType.int)) ∈ TB := tbm_6 (List.mem_of_getElem? (i := 68) (rfl))
theorem tb_6_69 : (Jvm.Cond.methodLink "CheriCoreLaw" (82 : Nat) ({ cls := "CheriCoreModel", name := "tag", desc := "(I)Z" } : Jvm.MethodName)) ∈ TB := tbm_6 (List.mem_of_getElem? (i := 69) (by decide +kernel))
theorem tb_6_7 : (Jvm.Cond.methodLink "CheriCoreModel" (186 : Nat) ({ cls := "CheriCoreModel", name := "load", desc := "(IIII)Z" } : Jvm.MethodName)) ∈ TB := tbm_6 (List.mem_of_getElem? (i := 7) (by decide +kernel))
theorem tb_6_70 : (Jvm.Cond.instanceMethod ({ cls := "CheriCoreModel", name := "tag", desc := "(I)Z" } : Jvm.MethodName)) ∈ TB := tbm_6 (List.mem_of_getElem? (i := 70) (by decide +kernel))
theorem tb_6_71 : (Jvm.Cond.selects "CheriCoreModel" ({ cls := "CheriCoreModel", name := "tag", desc := "(I)Z" } : Jvm.MethodName) ({ cls := "CheriCoreModel", name := "tag", desc := "(I)Z" } : Jvm.MethodName)) ∈ TB := tbm_6 (List.mem_of_getElem? (i := 71) (by decide +kernel))
theorem tb_6_72 : (Jvm.Cond.code ({ cls := "CheriCoreModel", name := "tag", desc := "(I)Z" } : Jvm.MethodName) prog_13_method_52_code (2 : Nat) (Option.some Jvm.ClassFile.FieldType.boolean)) ∈ TB := tbm_6 (List.mem_of_getElem? (i := 72) (rfl))
theorem tb_6_73 : (Jvm.Cond.methodLink "CheriCoreLaw" (85 : Nat) ({ cls := "CheriCoreModel", name := "count", desc := "(I)I" } : Jvm.MethodName)) ∈ TB := tbm_6 (List.mem_of_getElem? (i := 73) (by decide +kernel))
theorem tb_6_74 : (Jvm.Cond.instanceMethod ({ cls := "CheriCoreModel", name := "count", desc := "(I)I" } : Jvm.MethodName)) ∈ TB := tbm_6 (List.mem_of_getElem? (i := 74) (by decide +kernel))
theorem tb_6_75 : (Jvm.Cond.selects "CheriCoreModel" ({ cls := "CheriCoreModel", name := "count", desc := "(I)I" } : Jvm.MethodName) ({ cls := "CheriCoreModel", name := "count", desc := "(I)I" } : Jvm.MethodName)) ∈ TB := tbm_6 (List.mem_of_getElem? (i := 75) (by decide +kernel))
theorem tb_6_76 : (Jvm.Cond.code ({ cls := "CheriCoreModel", name := "count", desc := "(I)I" } : Jvm.MethodName) prog_13_method_53_code (4 : Nat) (Option.some Jvm.ClassFile.FieldType.int)) ∈ TB := tbm_6 (List.mem_of_getElem? (i := 76) (rfl))
theorem tb_6_77 : (Jvm.Cond.methodLink "CheriCoreLaw" (91 : Nat) ({ cls := "CheriCoreModel", name := "pack", desc := "(IJ)I" } : Jvm.MethodName)) ∈ TB := tbm_6 (List.mem_of_getElem? (i := 77) (by decide +kernel))
theorem tb_6_78 : (Jvm.Cond.methodLink "CheriCoreLaw" (96 : Nat) ({ cls := "CheriCoreModel", name := "bound", desc := "(IIZ)J" } : Jvm.MethodName)) ∈ TB := tbm_6 (List.mem_of_getElem? (i := 78) (by decide +kernel))
theorem tb_6_79 : (Jvm.Cond.instanceMethod ({ cls := "CheriCoreModel", name := "bound", desc := "(IIZ)J" } : Jvm.MethodName)) ∈ TB := tbm_6 (List.mem_of_getElem? (i := 79) (by decide +kernel))
theorem tb_6_80 : (Jvm.Cond.selects "CheriCoreModel" ({ cls := "CheriCoreModel", name := "bound", desc := "(IIZ)J" } : Jvm.MethodName) ({ cls := "CheriCoreModel", name := "bound", desc := "(IIZ)J" } : Jvm.MethodName)) ∈ TB := tbm_6 (List.mem_of_getElem? (i := 80) (by decide +kernel))
theorem tb_6_81 : (Jvm.Cond.code ({ cls := "CheriCoreModel", name := "bound", desc := "(IIZ)J" } : Jvm.MethodName) prog_13_method_55_code (4 : Nat) (Option.some Jvm.ClassFile.FieldType.long)) ∈ TB := tbm_6 (List.mem_of_getElem? (i := 81) (rfl))
theorem tb_6_82 : (Jvm.Cond.methodLink "CheriCoreLaw" (100 : Nat) ({ cls := "CheriCoreModel", name := "grown", desc := "()I" } : Jvm.MethodName)) ∈ TB := tbm_6 (List.mem_of_getElem? (i := 82) (by decide +kernel))
theorem tb_6_83 : (Jvm.Cond.instanceMethod ({ cls := "CheriCoreModel", name := "grown", desc := "()I" } : Jvm.MethodName)) ∈ TB := tbm_6 (List.mem_of_getElem? (i := 83) (by decide +kernel))
theorem tb_6_84 : (Jvm.Cond.selects "CheriCoreModel" ({ cls := "CheriCoreModel", name := "grown", desc := "()I" } : Jvm.MethodName) ({ cls := "CheriCoreModel", name := "grown", desc := "()I" } : Jvm.MethodName)) ∈ TB := tbm_6 (List.mem_of_getElem? (i := 84) (by decide +kernel))
theorem tb_6_85 : (Jvm.Cond.code ({ cls := "CheriCoreModel", name := "grown", desc := "()I" } : Jvm.MethodName) prog_13_method_57_code (3 : Nat) (Option.some Jvm.ClassFile.FieldType.int)) ∈ TB := tbm_6 (List.mem_of_getElem? (i := 85) (rfl))
theorem tb_6_86 : (Jvm.Cond.methodLink "CheriCoreModel" (256 : Nat) ({ cls := "CheriCoreModel", name := "isOfRoot", desc := "(II)Z" } : Jvm.MethodName)) ∈ TB := tbm_6 (List.mem_of_getElem? (i := 86) (by decide +kernel))
theorem tb_6_88 : (Jvm.Cond.instanceMethod ({ cls := "CheriCoreModel", name := "isOfRoot", desc := "(II)Z" } : Jvm.MethodName)) ∈ TB := tbm_6 (List.mem_of_getElem? (i := 88) (by decide +kernel))
theorem tb_6_89 : (Jvm.Cond.code ({ cls := "CheriCoreModel", name := "isOfRoot", desc := "(II)Z" } : Jvm.MethodName) prog_13_method_56_code (4 : Nat) (Option.some Jvm.ClassFile.FieldType.boolean)) ∈ TB := tbm_6 (List.mem_of_getElem? (i := 89) (rfl))
theorem tb_6_9 : (Jvm.Cond.instanceMethod ({ cls := "CheriCoreModel", name := "load", desc := "(IIII)Z" } : Jvm.MethodName)) ∈ TB := tbm_6 (List.mem_of_getElem? (i := 9) (by decide +kernel))
theorem tb_6_90 : (Jvm.Cond.methodLink "CheriCoreLaw" (104 : Nat) ({ cls := "CheriCoreModel", name := "check", desc := "()I" } : Jvm.MethodName)) ∈ TB := tbm_6 (List.mem_of_getElem? (i := 90) (by decide +kernel))
theorem tb_6_91 : (Jvm.Cond.instanceMethod ({ cls := "CheriCoreModel", name := "check", desc := "()I" } : Jvm.MethodName)) ∈ TB := tbm_6 (List.mem_of_getElem? (i := 91) (by decide +kernel))
theorem tb_6_92 : (Jvm.Cond.selects "CheriCoreModel" ({ cls := "CheriCoreModel", name := "check", desc := "()I" } : Jvm.MethodName) ({ cls := "CheriCoreModel", name := "check", desc := "()I" } : Jvm.MethodName)) ∈ TB := tbm_6 (List.mem_of_getElem? (i := 92) (by decide +kernel))
theorem tb_6_93 : (Jvm.Cond.code ({ cls := "CheriCoreModel", name := "check", desc := "()I" } : Jvm.MethodName) prog_13_method_58_code (1 : Nat) (Option.some Jvm.ClassFile.FieldType.int)) ∈ TB := tbm_6 (List.mem_of_getElem? (i := 93) (rfl))
theorem tb_6_94 : (Jvm.Cond.constantLong "CheriCoreLaw" (86 : Nat) (4294967295 : Int64)) ∈ TB := tbm_6 (List.mem_of_getElem? (i := 94) (by decide +kernel))
def F_Cap : u_T := fun k => match k with
  | 0 => ("CheriCore$Capability", "tagged", "Z", false)
  | 1 => ("CheriCore$Capability", "address", "I", false)
  | 2 => ("CheriCore$Capability", "meta", "I", false)
  | 3 => ("CheriCore$Capability", "base", "J", false)
  | _ => ("CheriCore$Capability", "top", "J", false)
def t_Cap : Nat → FieldType := fun k => match k with
  | 0 => .boolean
  | 1 => .int
  | 2 => .int
  | 3 => .long
  | _ => .long
theorem n_Cap : ∀ a, a < 5 → ∀ b, b < 5 → a ≠ b → (F_Cap a).2.1 ≠ (F_Cap b).2.1 := by decide +kernel
theorem t_Cap_ok : ∀ k, k < 5 → parseFieldDescriptor (F_Cap k).2.2.1 = some (t_Cap k) := by decide +kernel
theorem ly_Cap : ∀ w ∈ u_ws "CheriCore$Capability" F_Cap 5, w ∈ TB := List.forall_mem_cons.mpr ⟨tb_1_62, List.forall_mem_cons.mpr ⟨tb_1_64, List.forall_mem_cons.mpr ⟨tb_1_66, List.forall_mem_cons.mpr ⟨tb_1_68, List.forall_mem_cons.mpr ⟨tb_1_70, fun _ h => absurd h List.not_mem_nil⟩⟩⟩⟩⟩
def F_Pk : u_T := fun k => match k with
  | 0 => ("CheriCore$Packer", "bits", "I", false)
  | 1 => ("CheriCore$Packer", "exact", "Z", false)
  | 2 => ("CheriCore$Packer", "inner", "Z", false)
  | 3 => ("CheriCore$Packer", "exponent", "I", false)
  | _ => ("CheriCore$Packer", "length", "J", false)
def t_Pk : Nat → FieldType := fun k => match k with
  | 0 => .int
  | 1 => .boolean
  | 2 => .boolean
  | 3 => .int
  | _ => .long
theorem n_Pk : ∀ a, a < 5 → ∀ b, b < 5 → a ≠ b → (F_Pk a).2.1 ≠ (F_Pk b).2.1 := by decide +kernel
theorem t_Pk_ok : ∀ k, k < 5 → parseFieldDescriptor (F_Pk k).2.2.1 = some (t_Pk k) := by decide +kernel
theorem ly_Pk : ∀ w ∈ u_ws "CheriCore$Packer" F_Pk 5, w ∈ TB := List.forall_mem_cons.mpr ⟨tb_2_45, List.forall_mem_cons.mpr ⟨tb_2_47, List.forall_mem_cons.mpr ⟨tb_2_49, List.forall_mem_cons.mpr ⟨tb_2_51, List.forall_mem_cons.mpr ⟨tb_2_53, fun _ h => absurd h List.not_mem_nil⟩⟩⟩⟩⟩
def F_Dir : u_T := fun k => match k with
  | 0 => ("CheriCore$Directory", "lines", "[I", true)
  | _ => ("CheriCore$Directory", "nextWay", "[I", true)
def t_Dir : Nat → FieldType := fun k => match k with
  | 0 => .array .int
  | _ => .array .int
theorem n_Dir : ∀ a, a < 2 → ∀ b, b < 2 → a ≠ b → (F_Dir a).2.1 ≠ (F_Dir b).2.1 := by decide +kernel
theorem t_Dir_ok : ∀ k, k < 2 → parseFieldDescriptor (F_Dir k).2.2.1 = some (t_Dir k) := by decide +kernel
theorem ly_Dir : ∀ w ∈ u_ws "CheriCore$Directory" F_Dir 2, w ∈ TB := List.forall_mem_cons.mpr ⟨tb_1_109, List.forall_mem_cons.mpr ⟨tb_1_111, fun _ h => absurd h List.not_mem_nil⟩⟩
def F_Tag : u_T := fun k => match k with
  | 0 => ("CheriCore$TagStore", "rows", "[I", true)
  | 1 => ("CheriCore$TagStore", "held", "[I", true)
  | 2 => ("CheriCore$TagStore", "cached", "[I", true)
  | _ => ("CheriCore$TagStore", "written", "[Z", true)
def t_Tag : Nat → FieldType := fun k => match k with
  | 0 => .array .int
  | 1 => .array .int
  | 2 => .array .int
  | _ => .array .boolean
theorem n_Tag : ∀ a, a < 4 → ∀ b, b < 4 → a ≠ b → (F_Tag a).2.1 ≠ (F_Tag b).2.1 := by decide +kernel
theorem t_Tag_ok : ∀ k, k < 4 → parseFieldDescriptor (F_Tag k).2.2.1 = some (t_Tag k) := by decide +kernel
theorem ly_Tag : ∀ w ∈ u_ws "CheriCore$TagStore" F_Tag 4, w ∈ TB := List.forall_mem_cons.mpr ⟨tb_1_89, List.forall_mem_cons.mpr ⟨tb_1_91, List.forall_mem_cons.mpr ⟨tb_1_93, List.forall_mem_cons.mpr ⟨tb_1_95, fun _ h => absurd h List.not_mem_nil⟩⟩⟩⟩
def F_Mem : u_T := fun k => match k with
  | 0 => ("CheriCore$Memory", "words", "[I", true)
  | 1 => ("CheriCore$Memory", "tagStore", "LCheriCore$TagStore;", true)
  | 2 => ("CheriCore$Memory", "directory", "LCheriCore$Directory;", true)
  | 3 => ("CheriCore$Memory", "cached", "[I", true)
  | 4 => ("CheriCore$Memory", "cachedTags", "[I", true)
  | _ => ("CheriCore$Memory", "written", "[Z", true)
def t_Mem : Nat → FieldType := fun k => match k with
  | 0 => .array .int
  | 1 => .object "CheriCore$TagStore"
  | 2 => .object "CheriCore$Directory"
  | 3 => .array .int
  | 4 => .array .int
  | _ => .array .boolean
theorem n_Mem : ∀ a, a < 6 → ∀ b, b < 6 → a ≠ b → (F_Mem a).2.1 ≠ (F_Mem b).2.1 := by decide +kernel
theorem t_Mem_ok : ∀ k, k < 6 → parseFieldDescriptor (F_Mem k).2.2.1 = some (t_Mem k) := by decide +kernel
theorem ly_Mem : ∀ w ∈ u_ws "CheriCore$Memory" F_Mem 6, w ∈ TB := List.forall_mem_cons.mpr ⟨tb_1_120, List.forall_mem_cons.mpr ⟨tb_1_122, List.forall_mem_cons.mpr ⟨tb_1_124, List.forall_mem_cons.mpr ⟨tb_1_126, List.forall_mem_cons.mpr ⟨tb_1_128, List.forall_mem_cons.mpr ⟨tb_1_130, fun _ h => absurd h List.not_mem_nil⟩⟩⟩⟩⟩⟩
def F_Ins : u_T := fun k => match k with
  | 0 => ("CheriCore$Instruction", "index", "I", false)
  | 1 => ("CheriCore$Instruction", "bits", "I", false)
  | 2 => ("CheriCore$Instruction", "opcode", "I", false)
  | 3 => ("CheriCore$Instruction", "rd", "I", false)
  | 4 => ("CheriCore$Instruction", "function", "I", false)
  | 5 => ("CheriCore$Instruction", "rs1", "I", false)
  | 6 => ("CheriCore$Instruction", "rs2", "I", false)
  | 7 => ("CheriCore$Instruction", "number", "I", false)
  | _ => ("CheriCore$Instruction", "immediate", "I", false)
def t_Ins : Nat → FieldType := fun k => match k with
  | 0 => .int
  | 1 => .int
  | 2 => .int
  | 3 => .int
  | 4 => .int
  | 5 => .int
  | 6 => .int
  | 7 => .int
  | _ => .int
theorem n_Ins : ∀ a, a < 9 → ∀ b, b < 9 → a ≠ b → (F_Ins a).2.1 ≠ (F_Ins b).2.1 := by decide +kernel
theorem t_Ins_ok : ∀ k, k < 9 → parseFieldDescriptor (F_Ins k).2.2.1 = some (t_Ins k) := by decide +kernel
theorem ly_Ins : ∀ w ∈ u_ws "CheriCore$Instruction" F_Ins 9, w ∈ TB := List.forall_mem_cons.mpr ⟨tb_1_171, List.forall_mem_cons.mpr ⟨tb_1_173, List.forall_mem_cons.mpr ⟨tb_1_175, List.forall_mem_cons.mpr ⟨tb_1_177, List.forall_mem_cons.mpr ⟨tb_1_179, List.forall_mem_cons.mpr ⟨tb_1_181, List.forall_mem_cons.mpr ⟨tb_1_183, List.forall_mem_cons.mpr ⟨tb_1_185, List.forall_mem_cons.mpr ⟨tb_1_187, fun _ h => absurd h List.not_mem_nil⟩⟩⟩⟩⟩⟩⟩⟩⟩
def F_Pip : u_T := fun k => match k with
  | 0 => ("CheriCore$Pipeline", "memory", "LCheriCore$Memory;", true)
  | 1 => ("CheriCore$Pipeline", "executing", "LCheriCore$Instruction;", false)
  | 2 => ("CheriCore$Pipeline", "decoded", "LCheriCore$Instruction;", false)
  | 3 => ("CheriCore$Pipeline", "fetchedIndex", "I", false)
  | _ => ("CheriCore$Pipeline", "fetchedBits", "I", false)
def t_Pip : Nat → FieldType := fun k => match k with
  | 0 => .object "CheriCore$Memory"
  | 1 => .object "CheriCore$Instruction"
  | 2 => .object "CheriCore$Instruction"
  | 3 => .int
  | _ => .int
theorem n_Pip : ∀ a, a < 5 → ∀ b, b < 5 → a ≠ b → (F_Pip a).2.1 ≠ (F_Pip b).2.1 := by decide +kernel
theorem t_Pip_ok : ∀ k, k < 5 → parseFieldDescriptor (F_Pip k).2.2.1 = some (t_Pip k) := by decide +kernel
theorem ly_Pip : ∀ w ∈ u_ws "CheriCore$Pipeline" F_Pip 5, w ∈ TB := List.forall_mem_cons.mpr ⟨tb_1_195, List.forall_mem_cons.mpr ⟨tb_1_197, List.forall_mem_cons.mpr ⟨tb_1_199, List.forall_mem_cons.mpr ⟨tb_1_201, List.forall_mem_cons.mpr ⟨tb_1_203, fun _ h => absurd h List.not_mem_nil⟩⟩⟩⟩⟩
def F_Sta : u_T := fun k => match k with
  | 0 => ("CheriCore$State", "registers", "[LCheriCore$Capability;", true)
  | 1 => ("CheriCore$State", "pcc", "LCheriCore$Capability;", true)
  | 2 => ("CheriCore$State", "result", "LCheriCore$Capability;", true)
  | 3 => ("CheriCore$State", "memory", "LCheriCore$Memory;", true)
  | 4 => ("CheriCore$State", "pipeline", "LCheriCore$Pipeline;", true)
  | 5 => ("CheriCore$State", "cause", "I", false)
  | 6 => ("CheriCore$State", "value", "I", false)
  | _ => ("CheriCore$State", "faultValue", "I", false)
def t_Sta : Nat → FieldType := fun k => match k with
  | 0 => .array (.object "CheriCore$Capability")
  | 1 => .object "CheriCore$Capability"
  | 2 => .object "CheriCore$Capability"
  | 3 => .object "CheriCore$Memory"
  | 4 => .object "CheriCore$Pipeline"
  | 5 => .int
  | 6 => .int
  | _ => .int
theorem n_Sta : ∀ a, a < 8 → ∀ b, b < 8 → a ≠ b → (F_Sta a).2.1 ≠ (F_Sta b).2.1 := by decide +kernel
theorem t_Sta_ok : ∀ k, k < 8 → parseFieldDescriptor (F_Sta k).2.2.1 = some (t_Sta k) := by decide +kernel
theorem ly_Sta : ∀ w ∈ u_ws "CheriCore$State" F_Sta 8, w ∈ TB := List.forall_mem_cons.mpr ⟨tb_1_229, List.forall_mem_cons.mpr ⟨tb_1_231, List.forall_mem_cons.mpr ⟨tb_1_233, List.forall_mem_cons.mpr ⟨tb_1_235, List.forall_mem_cons.mpr ⟨tb_1_237, List.forall_mem_cons.mpr ⟨tb_1_239, List.forall_mem_cons.mpr ⟨tb_2_1, List.forall_mem_cons.mpr ⟨tb_2_3, fun _ h => absurd h List.not_mem_nil⟩⟩⟩⟩⟩⟩⟩⟩
def F_Bas : u_T := fun k => match k with
  | 0 => ("CheriCore$BaseUnit", "state", "LCheriCore$State;", true)
  | _ => ("CheriCore$BaseUnit", "target", "LCheriCore$Capability;", true)
def t_Bas : Nat → FieldType := fun k => match k with
  | 0 => .object "CheriCore$State"
  | _ => .object "CheriCore$Capability"
theorem n_Bas : ∀ a, a < 2 → ∀ b, b < 2 → a ≠ b → (F_Bas a).2.1 ≠ (F_Bas b).2.1 := by decide +kernel
theorem t_Bas_ok : ∀ k, k < 2 → parseFieldDescriptor (F_Bas k).2.2.1 = some (t_Bas k) := by decide +kernel
theorem ly_Bas : ∀ w ∈ u_ws "CheriCore$BaseUnit" F_Bas 2, w ∈ TB := List.forall_mem_cons.mpr ⟨tb_2_16, List.forall_mem_cons.mpr ⟨tb_2_18, fun _ h => absurd h List.not_mem_nil⟩⟩
def F_Cun : u_T := fun k => match k with
  | 0 => ("CheriCore$CapabilityUnit", "state", "LCheriCore$State;", true)
  | _ => ("CheriCore$CapabilityUnit", "packer", "LCheriCore$Packer;", true)
def t_Cun : Nat → FieldType := fun k => match k with
  | 0 => .object "CheriCore$State"
  | _ => .object "CheriCore$Packer"
theorem n_Cun : ∀ a, a < 2 → ∀ b, b < 2 → a ≠ b → (F_Cun a).2.1 ≠ (F_Cun b).2.1 := by decide +kernel
theorem t_Cun_ok : ∀ k, k < 2 → parseFieldDescriptor (F_Cun k).2.2.1 = some (t_Cun k) := by decide +kernel
theorem ly_Cun : ∀ w ∈ u_ws "CheriCore$CapabilityUnit" F_Cun 2, w ∈ TB := List.forall_mem_cons.mpr ⟨tb_2_58, List.forall_mem_cons.mpr ⟨tb_2_60, fun _ h => absurd h List.not_mem_nil⟩⟩
def F_Cor : u_T := fun k => match k with
  | 0 => ("CheriCore", "state", "LCheriCore$State;", true)
  | 1 => ("CheriCore", "baseUnit", "LCheriCore$BaseUnit;", true)
  | 2 => ("CheriCore", "capabilityUnit", "LCheriCore$CapabilityUnit;", true)
  | 3 => ("CheriCore", "packer", "LCheriCore$Packer;", true)
  | 4 => ("CheriCore", "scratch", "LCheriCore$Capability;", true)
  | 5 => ("CheriCore", "roots", "[LCheriCore$Capability;", true)
  | 6 => ("CheriCore", "rootCount", "I", false)
  | 7 => ("CheriCore", "steps", "I", false)
  | 8 => ("CheriCore", "traps", "I", false)
  | _ => ("CheriCore", "halted", "Z", false)
def t_Cor : Nat → FieldType := fun k => match k with
  | 0 => .object "CheriCore$State"
  | 1 => .object "CheriCore$BaseUnit"
  | 2 => .object "CheriCore$CapabilityUnit"
  | 3 => .object "CheriCore$Packer"
  | 4 => .object "CheriCore$Capability"
  | 5 => .array (.object "CheriCore$Capability")
  | 6 => .int
  | 7 => .int
  | 8 => .int
  | _ => .boolean
theorem n_Cor : ∀ a, a < 10 → ∀ b, b < 10 → a ≠ b → (F_Cor a).2.1 ≠ (F_Cor b).2.1 := by decide +kernel
theorem t_Cor_ok : ∀ k, k < 10 → parseFieldDescriptor (F_Cor k).2.2.1 = some (t_Cor k) := by decide +kernel
theorem ly_Cor : ∀ w ∈ u_ws "CheriCore" F_Cor 10, w ∈ TB := List.forall_mem_cons.mpr ⟨tb_2_77, List.forall_mem_cons.mpr ⟨tb_2_79, List.forall_mem_cons.mpr ⟨tb_2_81, List.forall_mem_cons.mpr ⟨tb_2_83, List.forall_mem_cons.mpr ⟨tb_2_85, List.forall_mem_cons.mpr ⟨tb_2_87, List.forall_mem_cons.mpr ⟨tb_2_89, List.forall_mem_cons.mpr ⟨tb_2_91, List.forall_mem_cons.mpr ⟨tb_2_93, List.forall_mem_cons.mpr ⟨tb_2_95, fun _ h => absurd h List.not_mem_nil⟩⟩⟩⟩⟩⟩⟩⟩⟩⟩
def F_Mod : u_T := fun k => match k with
  | 0 => ("CheriCoreModel", "tag", "[Z", true)
  | 1 => ("CheriCoreModel", "address", "[I", true)
  | 2 => ("CheriCoreModel", "meta", "[I", true)
  | 3 => ("CheriCoreModel", "word", "[I", true)
  | 4 => ("CheriCoreModel", "tags", "[Z", true)
  | 5 => ("CheriCoreModel", "rootBase", "[J", true)
  | 6 => ("CheriCoreModel", "rootTop", "[J", true)
  | 7 => ("CheriCoreModel", "rootPerms", "[I", true)
  | 8 => ("CheriCoreModel", "roots", "I", false)
  | 9 => ("CheriCoreModel", "cause", "I", false)
  | 10 => ("CheriCoreModel", "value", "I", false)
  | 11 => ("CheriCoreModel", "steps", "I", false)
  | 12 => ("CheriCoreModel", "traps", "I", false)
  | 13 => ("CheriCoreModel", "thrown", "I", false)
  | 14 => ("CheriCoreModel", "halted", "Z", false)
  | 15 => ("CheriCoreModel", "packed", "I", false)
  | 16 => ("CheriCoreModel", "exact", "Z", false)
  | 17 => ("CheriCoreModel", "rounded", "J", false)
  | _ => ("CheriCoreModel", "told", "I", false)
def t_Mod : Nat → FieldType := fun k => match k with
  | 0 => .array .boolean
  | 1 => .array .int
  | 2 => .array .int
  | 3 => .array .int
  | 4 => .array .boolean
  | 5 => .array .long
  | 6 => .array .long
  | 7 => .array .int
  | 8 => .int
  | 9 => .int
  | 10 => .int
  | 11 => .int
  | 12 => .int
  | 13 => .int
  | 14 => .boolean
  | 15 => .int
  | 16 => .boolean
  | 17 => .long
  | _ => .int
theorem n_Mod : ∀ a, a < 19 → ∀ b, b < 19 → a ≠ b → (F_Mod a).2.1 ≠ (F_Mod b).2.1 := by decide +kernel
theorem t_Mod_ok : ∀ k, k < 19 → parseFieldDescriptor (F_Mod k).2.2.1 = some (t_Mod k) := by decide +kernel
theorem ly_Mod : ∀ w ∈ u_ws "CheriCoreModel" F_Mod 19, w ∈ TB := List.forall_mem_cons.mpr ⟨tb_5_62, List.forall_mem_cons.mpr ⟨tb_5_64, List.forall_mem_cons.mpr ⟨tb_5_66, List.forall_mem_cons.mpr ⟨tb_5_68, List.forall_mem_cons.mpr ⟨tb_5_70, List.forall_mem_cons.mpr ⟨tb_5_72, List.forall_mem_cons.mpr ⟨tb_5_74, List.forall_mem_cons.mpr ⟨tb_5_76, List.forall_mem_cons.mpr ⟨tb_5_78, List.forall_mem_cons.mpr ⟨tb_5_80, List.forall_mem_cons.mpr ⟨tb_5_82, List.forall_mem_cons.mpr ⟨tb_5_84, List.forall_mem_cons.mpr ⟨tb_5_86, List.forall_mem_cons.mpr ⟨tb_5_88, List.forall_mem_cons.mpr ⟨tb_5_90, List.forall_mem_cons.mpr ⟨tb_5_92, List.forall_mem_cons.mpr ⟨tb_5_94, List.forall_mem_cons.mpr ⟨tb_5_96, List.forall_mem_cons.mpr ⟨tb_5_98, fun _ h => absurd h List.not_mem_nil⟩⟩⟩⟩⟩⟩⟩⟩⟩⟩⟩⟩⟩⟩⟩⟩⟩⟩⟩
abbrev clz : List vw_C := [("CheriCore$Capability", F_Cap, 5), ("CheriCore$Packer", F_Pk, 5), ("CheriCore$Directory", F_Dir, 2), ("CheriCore$TagStore", F_Tag, 4), ("CheriCore$Memory", F_Mem, 6), ("CheriCore$Instruction", F_Ins, 9), ("CheriCore$Pipeline", F_Pip, 5), ("CheriCore$State", F_Sta, 8), ("CheriCore$BaseUnit", F_Bas, 2), ("CheriCore$CapabilityUnit", F_Cun, 2), ("CheriCore", F_Cor, 10), ("CheriCoreModel", F_Mod, 19)]
abbrev b_Cor_init : ByteArray := prog_1_method_1_code
def y_Cor_init : MethodName := ⟨"CheriCore", "<init>", "()V"⟩
theorem k_Cor_init : Ci y_Cor_init b_Cor_init 2 0 := ⟨tb_1_25, tb_1_1, tb_1_26, by decide +kernel⟩
abbrev b_Sta_init : ByteArray := prog_10_method_1_code
def y_Sta_init : MethodName := ⟨"CheriCore$State", "<init>", "()V"⟩
theorem k_Sta_init : Ci y_Sta_init b_Sta_init 2 0 := ⟨tb_1_33, tb_1_2, tb_1_34, by decide +kernel⟩
abbrev b_Cap_init : ByteArray := prog_3_method_1_code
def y_Cap_init : MethodName := ⟨"CheriCore$Capability", "<init>", "()V"⟩
theorem k_Cap_init : Ci y_Cap_init b_Cap_init 1 0 := ⟨tb_1_40, tb_1_3, tb_1_41, by decide +kernel⟩
abbrev b_Mem_init : ByteArray := prog_7_method_1_code
def y_Mem_init : MethodName := ⟨"CheriCore$Memory", "<init>", "()V"⟩
theorem k_Mem_init : Ci y_Mem_init b_Mem_init 1 0 := ⟨tb_1_76, tb_1_4, tb_1_77, by decide +kernel⟩
abbrev b_Tag_init : ByteArray := prog_11_method_1_code
def y_Tag_init : MethodName := ⟨"CheriCore$TagStore", "<init>", "()V"⟩
theorem k_Tag_init : Ci y_Tag_init b_Tag_init 2 0 := ⟨tb_1_82, tb_1_5, tb_1_83, by decide +kernel⟩
abbrev b_Dir_init : ByteArray := prog_5_method_1_code
def y_Dir_init : MethodName := ⟨"CheriCore$Directory", "<init>", "()V"⟩
theorem k_Dir_init : Ci y_Dir_init b_Dir_init 2 0 := ⟨tb_1_103, tb_1_6, tb_1_104, by decide +kernel⟩
abbrev b_Pip_init : ByteArray := prog_9_method_1_code
def y_Pip_init : MethodName := ⟨"CheriCore$Pipeline", "<init>", "(LCheriCore$Memory;)V"⟩
theorem k_Pip_init : Ci y_Pip_init b_Pip_init 2 1 := ⟨tb_1_136, tb_1_7, tb_1_137, by decide +kernel⟩
abbrev b_Ins_init : ByteArray := prog_6_method_1_code
def y_Ins_init : MethodName := ⟨"CheriCore$Instruction", "<init>", "()V"⟩
theorem k_Ins_init : Ci y_Ins_init b_Ins_init 1 0 := ⟨tb_1_142, tb_1_8, tb_1_143, by decide +kernel⟩
abbrev b_Bas_init : ByteArray := prog_2_method_1_code
def y_Bas_init : MethodName := ⟨"CheriCore$BaseUnit", "<init>", "(LCheriCore$State;)V"⟩
theorem k_Bas_init : Ci y_Bas_init b_Bas_init 2 1 := ⟨tb_2_9, tb_1_9, tb_2_10, by decide +kernel⟩
abbrev b_Cun_init : ByteArray := prog_4_method_1_code
def y_Cun_init : MethodName := ⟨"CheriCore$CapabilityUnit", "<init>", "(LCheriCore$State;)V"⟩
theorem k_Cun_init : Ci y_Cun_init b_Cun_init 2 1 := ⟨tb_2_24, tb_1_10, tb_2_25, by decide +kernel⟩
abbrev b_Pk_init : ByteArray := prog_8_method_1_code
def y_Pk_init : MethodName := ⟨"CheriCore$Packer", "<init>", "()V"⟩
theorem k_Pk_init : Ci y_Pk_init b_Pk_init 1 0 := ⟨tb_2_30, tb_1_11, tb_2_31, by decide +kernel⟩
abbrev b_Cor_bound : ByteArray := prog_1_method_11_code
def y_Cor_bound : MethodName := ⟨"CheriCore", "bound", "(IIZ)J"⟩
theorem k_Cor_bound : Ce y_Cor_bound "CheriCore" b_Cor_bound 4 (some .long) 3 := ⟨tb_2_99, tb_2_100, tb_1_1, tb_2_101, by decide +kernel⟩
abbrev b_Cap_define : ByteArray := prog_3_method_4_code
def y_Cap_define : MethodName := ⟨"CheriCore$Capability", "define", "(ZII)V"⟩
theorem k_Cap_define : Ce y_Cap_define "CheriCore$Capability" b_Cap_define 4 none 3 := ⟨tb_2_103, tb_2_104, tb_1_3, tb_2_105, by decide +kernel⟩
abbrev b_Cap_settle : ByteArray := prog_3_method_17_code
def y_Cap_settle : MethodName := ⟨"CheriCore$Capability", "settle", "()V"⟩
theorem k_Cap_settle : Ce y_Cap_settle "CheriCore$Capability" b_Cap_settle 12 none 0 := ⟨tb_2_108, tb_s_0, tb_1_3, tb_2_109, by decide +kernel⟩
abbrev b_Math_min : ByteArray := prog_19_method_69_code
def y_Math_min : MethodName := ⟨"java/lang/Math", "min", "(II)I"⟩
theorem k_Math_min : Cs y_Math_min b_Math_min 2 (some .int) 2 := ⟨tb_2_111, tb_1_20, tb_2_112, by decide +kernel⟩
abbrev b_Cap_below : ByteArray := prog_3_method_18_code
def y_Cap_below : MethodName := ⟨"CheriCore$Capability", "below", "(II)I"⟩
theorem k_Cap_below : Cs y_Cap_below b_Cap_below 2 (some .int) 2 := ⟨tb_2_115, tb_1_3, tb_2_116, by decide +kernel⟩
abbrev b_Cor_grown : ByteArray := prog_1_method_12_code
def y_Cor_grown : MethodName := ⟨"CheriCore", "grown", "()I"⟩
theorem k_Cor_grown : Ce y_Cor_grown "CheriCore" b_Cor_grown 3 (some .int) 0 := ⟨tb_2_120, tb_2_121, tb_1_1, tb_2_122, by decide +kernel⟩
abbrev b_Cor_isOutsideRoots : ByteArray := prog_1_method_16_code
def y_Cor_isOutsideRoots : MethodName := ⟨"CheriCore", "isOutsideRoots", "(LCheriCore$Capability;)Z"⟩
theorem k_Cor_isOutsideRoots : Ce y_Cor_isOutsideRoots "CheriCore" b_Cor_isOutsideRoots 3 (some .boolean) 1 := ⟨tb_2_125, tb_s_1, tb_1_1, tb_2_126, by decide +kernel⟩
abbrev b_Cap_isWithin : ByteArray := prog_3_method_16_code
def y_Cap_isWithin : MethodName := ⟨"CheriCore$Capability", "isWithin", "(LCheriCore$Capability;)Z"⟩
theorem k_Cap_isWithin : Ce y_Cap_isWithin "CheriCore$Capability" b_Cap_isWithin 2 (some .boolean) 1 := ⟨tb_2_128, tb_2_129, tb_1_3, tb_2_130, by decide +kernel⟩
abbrev b_Cap_perms : ByteArray := prog_3_method_9_code
def y_Cap_perms : MethodName := ⟨"CheriCore$Capability", "perms", "()I"⟩
theorem k_Cap_perms : Ce y_Cap_perms "CheriCore$Capability" b_Cap_perms 1 (some .int) 0 := ⟨tb_2_132, tb_2_133, tb_1_3, tb_2_134, by decide +kernel⟩
abbrev b_Mem_seenTag : ByteArray := prog_7_method_7_code
def y_Mem_seenTag : MethodName := ⟨"CheriCore$Memory", "seenTag", "(I)Z"⟩
theorem k_Mem_seenTag : Ce y_Mem_seenTag "CheriCore$Memory" b_Mem_seenTag 2 (some .boolean) 1 := ⟨tb_2_136, tb_2_137, tb_1_4, tb_2_138, by decide +kernel⟩
abbrev b_Mem_seenTags : ByteArray := prog_7_method_12_code
def y_Mem_seenTags : MethodName := ⟨"CheriCore$Memory", "seenTags", "(I)I"⟩
theorem k_Mem_seenTags : Ce y_Mem_seenTags "CheriCore$Memory" b_Mem_seenTags 3 (some .int) 1 := ⟨tb_2_141, tb_s_2, tb_1_4, tb_2_142, by decide +kernel⟩
abbrev b_Dir_find : ByteArray := prog_5_method_2_code
def y_Dir_find : MethodName := ⟨"CheriCore$Directory", "find", "(I)I"⟩
theorem k_Dir_find : Ce y_Dir_find "CheriCore$Directory" b_Dir_find 4 (some .int) 1 := ⟨tb_2_144, tb_2_145, tb_1_6, tb_2_146, by decide +kernel⟩
abbrev b_Tag_seenOfLine : ByteArray := prog_11_method_5_code
def y_Tag_seenOfLine : MethodName := ⟨"CheriCore$TagStore", "seenOfLine", "(I)I"⟩
theorem k_Tag_seenOfLine : Ce y_Tag_seenOfLine "CheriCore$TagStore" b_Tag_seenOfLine 6 (some .int) 1 := ⟨tb_2_148, tb_2_149, tb_1_5, tb_2_150, by decide +kernel⟩
abbrev b_Mem_tagBit : ByteArray := prog_7_method_11_code
def y_Mem_tagBit : MethodName := ⟨"CheriCore$Memory", "tagBit", "(I)I"⟩
theorem k_Mem_tagBit : Cs y_Mem_tagBit b_Mem_tagBit 1 (some .int) 1 := ⟨tb_2_152, tb_1_4, tb_2_153, by decide +kernel⟩
abbrev b_Mem_seenWord : ByteArray := prog_7_method_6_code
def y_Mem_seenWord : MethodName := ⟨"CheriCore$Memory", "seenWord", "(I)I"⟩
theorem k_Mem_seenWord : Ce y_Mem_seenWord "CheriCore$Memory" b_Mem_seenWord 3 (some .int) 1 := ⟨tb_2_155, tb_2_156, tb_1_4, tb_2_157, by decide +kernel⟩
abbrev b_Cor_check : ByteArray := prog_1_method_13_code
def y_Cor_check : MethodName := ⟨"CheriCore", "check", "()I"⟩
theorem k_Cor_check : Ce y_Cor_check "CheriCore" b_Cor_check 1 (some .int) 0 := ⟨tb_2_160, tb_2_161, tb_1_1, tb_2_162, by decide +kernel⟩
abbrev b_Mem_wrongs : ByteArray := prog_7_method_9_code
def y_Mem_wrongs : MethodName := ⟨"CheriCore$Memory", "wrongs", "()I"⟩
theorem k_Mem_wrongs : Ce y_Mem_wrongs "CheriCore$Memory" b_Mem_wrongs 4 (some .int) 0 := ⟨tb_2_164, tb_2_165, tb_1_4, tb_2_166, by decide +kernel⟩
abbrev b_Dir_doubles : ByteArray := prog_5_method_5_code
def y_Dir_doubles : MethodName := ⟨"CheriCore$Directory", "doubles", "()I"⟩
theorem k_Dir_doubles : Ce y_Dir_doubles "CheriCore$Directory" b_Dir_doubles 4 (some .int) 0 := ⟨tb_2_168, tb_2_169, tb_1_6, tb_2_170, by decide +kernel⟩
abbrev b_Tag_wrongs : ByteArray := prog_11_method_6_code
def y_Tag_wrongs : MethodName := ⟨"CheriCore$TagStore", "wrongs", "()I"⟩
theorem k_Tag_wrongs : Ce y_Tag_wrongs "CheriCore$TagStore" b_Tag_wrongs 3 (some .int) 0 := ⟨tb_2_172, tb_2_173, tb_1_5, tb_2_174, by decide +kernel⟩
abbrev b_Int_bitCount : ByteArray := prog_18_method_49_code
def y_Int_bitCount : MethodName := ⟨"java/lang/Integer", "bitCount", "(I)I"⟩
theorem k_Int_bitCount : Cs y_Int_bitCount b_Int_bitCount 1 (some .int) 1 := ⟨tb_2_176, tb_1_21, tb_2_177, by decide +kernel⟩
abbrev b_Mem_wordsUnlikeMemory : ByteArray := prog_7_method_10_code
def y_Mem_wordsUnlikeMemory : MethodName := ⟨"CheriCore$Memory", "wordsUnlikeMemory", "(II)I"⟩
theorem k_Mem_wordsUnlikeMemory : Ce y_Mem_wordsUnlikeMemory "CheriCore$Memory" b_Mem_wordsUnlikeMemory 5 (some .int) 2 := ⟨tb_2_184, tb_s_3, tb_1_4, tb_2_185, by decide +kernel⟩
abbrev b_Cor_word : ByteArray := prog_1_method_2_code
def y_Cor_word : MethodName := ⟨"CheriCore", "word", "(II)I"⟩
theorem k_Cor_word : Ce y_Cor_word "CheriCore" b_Cor_word 4 (some .int) 2 := ⟨tb_2_191, tb_2_192, tb_1_1, tb_2_193, by decide +kernel⟩
abbrev b_Cor_isWord : ByteArray := prog_1_method_14_code
def y_Cor_isWord : MethodName := ⟨"CheriCore", "isWord", "(I)Z"⟩
theorem k_Cor_isWord : Cs y_Cor_isWord b_Cor_isWord 1 (some .boolean) 1 := ⟨tb_2_195, tb_1_1, tb_2_196, by decide +kernel⟩
abbrev b_Mem_readWord : ByteArray := prog_7_method_2_code
def y_Mem_readWord : MethodName := ⟨"CheriCore$Memory", "readWord", "(I)I"⟩
theorem k_Mem_readWord : Ce y_Mem_readWord "CheriCore$Memory" b_Mem_readWord 2 (some .int) 1 := ⟨tb_3_26, tb_3_27, tb_1_4, tb_3_28, by decide +kernel⟩
abbrev b_Mem_slotOf : ByteArray := prog_7_method_13_code
def y_Mem_slotOf : MethodName := ⟨"CheriCore$Memory", "slotOf", "(I)I"⟩
theorem k_Mem_slotOf : Ce y_Mem_slotOf "CheriCore$Memory" b_Mem_slotOf 4 (some .int) 1 := ⟨tb_3_31, tb_s_5, tb_1_4, tb_3_32, by decide +kernel⟩
abbrev b_Dir_victim : ByteArray := prog_5_method_3_code
def y_Dir_victim : MethodName := ⟨"CheriCore$Directory", "victim", "(I)I"⟩
theorem k_Dir_victim : Ce y_Dir_victim "CheriCore$Directory" b_Dir_victim 3 (some .int) 1 := ⟨tb_3_34, tb_3_35, tb_1_6, tb_3_36, by decide +kernel⟩
abbrev b_Tag_bring : ByteArray := prog_11_method_2_code
def y_Tag_bring : MethodName := ⟨"CheriCore$TagStore", "bring", "(I)V"⟩
theorem k_Tag_bring : Ce y_Tag_bring "CheriCore$TagStore" b_Tag_bring 4 none 1 := ⟨tb_3_41, tb_3_42, tb_1_5, tb_3_43, by decide +kernel⟩
abbrev b_Tag_keep : ByteArray := prog_11_method_4_code
def y_Tag_keep : MethodName := ⟨"CheriCore$TagStore", "keep", "(II)V"⟩
theorem k_Tag_keep : Ce y_Tag_keep "CheriCore$TagStore" b_Tag_keep 5 none 2 := ⟨tb_3_45, tb_3_46, tb_1_5, tb_3_47, by decide +kernel⟩
abbrev b_Tag_ofLine : ByteArray := prog_11_method_3_code
def y_Tag_ofLine : MethodName := ⟨"CheriCore$TagStore", "ofLine", "(I)I"⟩
theorem k_Tag_ofLine : Ce y_Tag_ofLine "CheriCore$TagStore" b_Tag_ofLine 3 (some .int) 1 := ⟨tb_3_49, tb_3_50, tb_1_5, tb_3_51, by decide +kernel⟩
abbrev b_Dir_touch : ByteArray := prog_5_method_4_code
def y_Dir_touch : MethodName := ⟨"CheriCore$Directory", "touch", "(I)V"⟩
theorem k_Dir_touch : Ce y_Dir_touch "CheriCore$Directory" b_Dir_touch 2 none 1 := ⟨tb_3_53, tb_3_54, tb_1_6, tb_3_55, by decide +kernel⟩
abbrev b_Mem_writeWord : ByteArray := prog_7_method_4_code
def y_Mem_writeWord : MethodName := ⟨"CheriCore$Memory", "writeWord", "(II)V"⟩
theorem k_Mem_writeWord : Ce y_Mem_writeWord "CheriCore$Memory" b_Mem_writeWord 4 none 2 := ⟨tb_3_57, tb_3_58, tb_1_4, tb_3_59, by decide +kernel⟩
abbrev b_Pip_squash : ByteArray := prog_9_method_3_code
def y_Pip_squash : MethodName := ⟨"CheriCore$Pipeline", "squash", "(I)V"⟩
theorem k_Pip_squash : Ce y_Pip_squash "CheriCore$Pipeline" b_Pip_squash 2 none 1 := ⟨tb_3_61, tb_3_62, tb_1_7, tb_3_63, by decide +kernel⟩
abbrev b_Cor_root : ByteArray := prog_1_method_3_code
def y_Cor_root : MethodName := ⟨"CheriCore", "root", "(IIII)I"⟩
theorem k_Cor_root : Ce y_Cor_root "CheriCore" b_Cor_root 8 (some .int) 4 := ⟨tb_3_70, tb_3_71, tb_1_1, tb_3_72, by decide +kernel⟩
abbrev b_Cor_fitsSpace : ByteArray := prog_1_method_15_code
def y_Cor_fitsSpace : MethodName := ⟨"CheriCore", "fitsSpace", "(IJ)Z"⟩
theorem k_Cor_fitsSpace : Cs y_Cor_fitsSpace b_Cor_fitsSpace 3 (some .boolean) 2 := ⟨tb_3_75, tb_1_1, tb_3_76, by decide +kernel⟩
abbrev b_Pk_fit : ByteArray := prog_8_method_2_code
def y_Pk_fit : MethodName := ⟨"CheriCore$Packer", "fit", "(JJ)V"⟩
theorem k_Pk_fit : Ce y_Pk_fit "CheriCore$Packer" b_Pk_fit 11 none 2 := ⟨tb_3_112, tb_3_113, tb_1_11, tb_3_114, by decide +kernel⟩
abbrev b_Pk_bitsOf : ByteArray := prog_8_method_5_code
def y_Pk_bitsOf : MethodName := ⟨"CheriCore$Packer", "bitsOf", "(J)I"⟩
theorem k_Pk_bitsOf : Cs y_Pk_bitsOf b_Pk_bitsOf 3 (some .int) 1 := ⟨tb_3_116, tb_1_11, tb_3_117, by decide +kernel⟩
abbrev b_Pk_roundedDown : ByteArray := prog_8_method_3_code
def y_Pk_roundedDown : MethodName := ⟨"CheriCore$Packer", "roundedDown", "(J)J"⟩
theorem k_Pk_roundedDown : Ce y_Pk_roundedDown "CheriCore$Packer" b_Pk_roundedDown 3 (some .long) 1 := ⟨tb_3_121, tb_s_6, tb_1_11, tb_3_122, by decide +kernel⟩
abbrev b_Pk_roundedUp : ByteArray := prog_8_method_4_code
def y_Pk_roundedUp : MethodName := ⟨"CheriCore$Packer", "roundedUp", "(J)J"⟩
theorem k_Pk_roundedUp : Ce y_Pk_roundedUp "CheriCore$Packer" b_Pk_roundedUp 5 (some .long) 1 := ⟨tb_3_126, tb_s_7, tb_1_11, tb_3_127, by decide +kernel⟩
abbrev b_Cap_become : ByteArray := prog_3_method_2_code
def y_Cap_become : MethodName := ⟨"CheriCore$Capability", "become", "(LCheriCore$Capability;)V"⟩
theorem k_Cap_become : Ce y_Cap_become "CheriCore$Capability" b_Cap_become 2 none 1 := ⟨tb_3_131, tb_3_132, tb_1_3, tb_3_133, by decide +kernel⟩
abbrev b_Cor_put : ByteArray := prog_1_method_4_code
def y_Cor_put : MethodName := ⟨"CheriCore", "put", "(III)V"⟩
theorem k_Cor_put : Ce y_Cor_put "CheriCore" b_Cor_put 4 none 3 := ⟨tb_3_138, tb_3_139, tb_1_1, tb_3_140, by decide +kernel⟩
abbrev b_Cor_run : ByteArray := prog_1_method_5_code
def y_Cor_run : MethodName := ⟨"CheriCore", "run", "(I)I"⟩
theorem k_Cor_run : Ce y_Cor_run "CheriCore" b_Cor_run 3 (some .int) 1 := ⟨tb_3_145, tb_3_146, tb_1_1, tb_3_147, by decide +kernel⟩
abbrev b_Cor_step : ByteArray := prog_1_method_17_code
def y_Cor_step : MethodName := ⟨"CheriCore", "step", "()V"⟩
theorem k_Cor_step : Ce y_Cor_step "CheriCore" b_Cor_step 3 none 0 := ⟨tb_3_152, tb_s_8, tb_1_1, tb_3_153, by decide +kernel⟩
abbrev b_Sta_pccFault : ByteArray := prog_10_method_5_code
def y_Sta_pccFault : MethodName := ⟨"CheriCore$State", "pccFault", "()I"⟩
theorem k_Sta_pccFault : Ce y_Sta_pccFault "CheriCore$State" b_Sta_pccFault 2 (some .int) 0 := ⟨tb_3_155, tb_3_156, tb_1_2, tb_3_157, by decide +kernel⟩
abbrev b_Sta_authorityFault : ByteArray := prog_10_method_6_code
def y_Sta_authorityFault : MethodName := ⟨"CheriCore$State", "authorityFault", "(III)I"⟩
theorem k_Sta_authorityFault : Ce y_Sta_authorityFault "CheriCore$State" b_Sta_authorityFault 5 (some .int) 3 := ⟨tb_3_159, tb_3_160, tb_1_2, tb_3_161, by decide +kernel⟩
abbrev b_Sta_capabilityFault : ByteArray := prog_10_method_3_code
def y_Sta_capabilityFault : MethodName := ⟨"CheriCore$State", "capabilityFault", "(II)I"⟩
theorem k_Sta_capabilityFault : Ce y_Sta_capabilityFault "CheriCore$State" b_Sta_capabilityFault 3 (some .int) 2 := ⟨tb_3_163, tb_3_164, tb_1_2, tb_3_165, by decide +kernel⟩
abbrev b_Sta_fault : ByteArray := prog_10_method_2_code
def y_Sta_fault : MethodName := ⟨"CheriCore$State", "fault", "(II)I"⟩
theorem k_Sta_fault : Ce y_Sta_fault "CheriCore$State" b_Sta_fault 3 (some .int) 2 := ⟨tb_3_167, tb_3_168, tb_1_2, tb_3_169, by decide +kernel⟩
abbrev b_Cap_isOpen : ByteArray := prog_3_method_12_code
def y_Cap_isOpen : MethodName := ⟨"CheriCore$Capability", "isOpen", "()Z"⟩
theorem k_Cap_isOpen : Ce y_Cap_isOpen "CheriCore$Capability" b_Cap_isOpen 1 (some .boolean) 0 := ⟨tb_3_171, tb_3_172, tb_1_3, tb_3_173, by decide +kernel⟩
abbrev b_Cap_type : ByteArray := prog_3_method_11_code
def y_Cap_type : MethodName := ⟨"CheriCore$Capability", "type", "()I"⟩
theorem k_Cap_type : Ce y_Cap_type "CheriCore$Capability" b_Cap_type 1 (some .int) 0 := ⟨tb_3_175, tb_3_176, tb_1_3, tb_3_177, by decide +kernel⟩
abbrev b_Cap_may : ByteArray := prog_3_method_10_code
def y_Cap_may : MethodName := ⟨"CheriCore$Capability", "may", "(I)Z"⟩
theorem k_Cap_may : Ce y_Cap_may "CheriCore$Capability" b_Cap_may 2 (some .boolean) 1 := ⟨tb_3_179, tb_3_180, tb_1_3, tb_3_181, by decide +kernel⟩
abbrev b_Sta_placeFault : ByteArray := prog_10_method_7_code
def y_Sta_placeFault : MethodName := ⟨"CheriCore$State", "placeFault", "(IIII)I"⟩
theorem k_Sta_placeFault : Ce y_Sta_placeFault "CheriCore$State" b_Sta_placeFault 5 (some .int) 4 := ⟨tb_3_183, tb_3_184, tb_1_2, tb_3_185, by decide +kernel⟩
abbrev b_Cap_covers : ByteArray := prog_3_method_15_code
def y_Cap_covers : MethodName := ⟨"CheriCore$Capability", "covers", "(IJ)Z"⟩
theorem k_Cap_covers : Ce y_Cap_covers "CheriCore$Capability" b_Cap_covers 6 (some .boolean) 2 := ⟨tb_3_187, tb_3_188, tb_1_3, tb_3_189, by decide +kernel⟩
abbrev b_Pip_advance : ByteArray := prog_9_method_2_code
def y_Pip_advance : MethodName := ⟨"CheriCore$Pipeline", "advance", "(I)LCheriCore$Instruction;"⟩
theorem k_Pip_advance : Ce y_Pip_advance "CheriCore$Pipeline" b_Pip_advance 3 (some (.object "CheriCore$Instruction")) 1 := ⟨tb_3_191, tb_3_192, tb_1_7, tb_3_193, by decide +kernel⟩
abbrev b_Ins_decode : ByteArray := prog_6_method_2_code
def y_Ins_decode : MethodName := ⟨"CheriCore$Instruction", "decode", "(II)V"⟩
theorem k_Ins_decode : Ce y_Ins_decode "CheriCore$Instruction" b_Ins_decode 3 none 2 := ⟨tb_3_196, tb_3_197, tb_1_8, tb_3_198, by decide +kernel⟩
abbrev b_Ins_immediateOf : ByteArray := prog_6_method_3_code
def y_Ins_immediateOf : MethodName := ⟨"CheriCore$Instruction", "immediateOf", "()I"⟩
theorem k_Ins_immediateOf : Ce y_Ins_immediateOf "CheriCore$Instruction" b_Ins_immediateOf 1 (some .int) 0 := ⟨tb_3_201, tb_s_9, tb_1_8, tb_3_202, by decide +kernel⟩
abbrev b_Pip_fetch : ByteArray := prog_9_method_4_code
def y_Pip_fetch : MethodName := ⟨"CheriCore$Pipeline", "fetch", "(I)V"⟩
theorem k_Pip_fetch : Ce y_Pip_fetch "CheriCore$Pipeline" b_Pip_fetch 2 none 1 := ⟨tb_3_206, tb_s_10, tb_1_7, tb_3_207, by decide +kernel⟩
abbrev b_Cun_execute : ByteArray := prog_4_method_2_code
def y_Cun_execute : MethodName := ⟨"CheriCore$CapabilityUnit", "execute", "(LCheriCore$Instruction;)I"⟩
theorem k_Cun_execute : Ce y_Cun_execute "CheriCore$CapabilityUnit" b_Cun_execute 3 (some .int) 1 := ⟨tb_3_209, tb_3_210, tb_1_10, tb_3_211, by decide +kernel⟩
abbrev b_Cun_byNumber : ByteArray := prog_4_method_3_code
def y_Cun_byNumber : MethodName := ⟨"CheriCore$CapabilityUnit", "byNumber", "(LCheriCore$Instruction;LCheriCore$Capability;LCheriCore$Capability;)I"⟩
theorem k_Cun_byNumber : Ce y_Cun_byNumber "CheriCore$CapabilityUnit" b_Cun_byNumber 4 (some .int) 3 := ⟨tb_3_214, tb_s_11, tb_1_10, tb_3_215, by decide +kernel⟩
abbrev b_Cun_special : ByteArray := prog_4_method_5_code
def y_Cun_special : MethodName := ⟨"CheriCore$CapabilityUnit", "special", "(LCheriCore$Instruction;LCheriCore$Capability;)I"⟩
theorem k_Cun_special : Ce y_Cun_special "CheriCore$CapabilityUnit" b_Cun_special 5 (some .int) 2 := ⟨tb_3_218, tb_s_12, tb_1_10, tb_3_219, by decide +kernel⟩
abbrev b_Sta_illegal : ByteArray := prog_10_method_4_code
def y_Sta_illegal : MethodName := ⟨"CheriCore$State", "illegal", "(LCheriCore$Instruction;)I"⟩
theorem k_Sta_illegal : Ce y_Sta_illegal "CheriCore$State" b_Sta_illegal 2 (some .int) 1 := ⟨tb_3_221, tb_3_222, tb_1_2, tb_3_223, by decide +kernel⟩
abbrev b_Sta_answer : ByteArray := prog_10_method_9_code
def y_Sta_answer : MethodName := ⟨"CheriCore$State", "answer", "(I)I"⟩
theorem k_Sta_answer : Ce y_Sta_answer "CheriCore$State" b_Sta_answer 2 (some .int) 1 := ⟨tb_3_228, tb_3_229, tb_1_2, tb_3_230, by decide +kernel⟩
abbrev b_Cun_bounded : ByteArray := prog_4_method_6_code
def y_Cun_bounded : MethodName := ⟨"CheriCore$CapabilityUnit", "bounded", "(LCheriCore$Instruction;LCheriCore$Capability;JZ)I"⟩
theorem k_Cun_bounded : Ce y_Cun_bounded "CheriCore$CapabilityUnit" b_Cun_bounded 9 (some .int) 4 := ⟨tb_3_235, tb_s_13, tb_1_10, tb_3_236, by decide +kernel⟩
abbrev b_Math_minL : ByteArray := prog_19_method_70_code
def y_Math_minL : MethodName := ⟨"java/lang/Math", "min", "(JJ)J"⟩
theorem k_Math_minL : Cs y_Math_minL b_Math_minL 4 (some .long) 2 := ⟨tb_3_239, tb_1_20, tb_4_0, by decide +kernel⟩
abbrev b_Cap_setBounds : ByteArray := prog_3_method_8_code
def y_Cap_setBounds : MethodName := ⟨"CheriCore$Capability", "setBounds", "(I)V"⟩
theorem k_Cap_setBounds : Ce y_Cap_setBounds "CheriCore$Capability" b_Cap_setBounds 2 none 1 := ⟨tb_4_5, tb_4_6, tb_1_3, tb_4_7, by decide +kernel⟩
abbrev b_Cun_seal : ByteArray := prog_4_method_7_code
def y_Cun_seal : MethodName := ⟨"CheriCore$CapabilityUnit", "seal", "(LCheriCore$Instruction;LCheriCore$Capability;LCheriCore$Capability;)I"⟩
theorem k_Cun_seal : Ce y_Cun_seal "CheriCore$CapabilityUnit" b_Cun_seal 5 (some .int) 3 := ⟨tb_4_10, tb_s_14, tb_1_10, tb_4_11, by decide +kernel⟩
abbrev b_Cun_mayUseTypes : ByteArray := prog_4_method_9_code
def y_Cun_mayUseTypes : MethodName := ⟨"CheriCore$CapabilityUnit", "mayUseTypes", "(LCheriCore$Capability;I)Z"⟩
theorem k_Cun_mayUseTypes : Cs y_Cun_mayUseTypes b_Cun_mayUseTypes 3 (some .boolean) 2 := ⟨tb_4_13, tb_1_10, tb_4_14, by decide +kernel⟩
abbrev b_Cap_setType : ByteArray := prog_3_method_6_code
def y_Cap_setType : MethodName := ⟨"CheriCore$Capability", "setType", "(I)V"⟩
theorem k_Cap_setType : Ce y_Cap_setType "CheriCore$Capability" b_Cap_setType 2 none 1 := ⟨tb_4_16, tb_4_17, tb_1_3, tb_4_18, by decide +kernel⟩
abbrev b_Cun_unseal : ByteArray := prog_4_method_8_code
def y_Cun_unseal : MethodName := ⟨"CheriCore$CapabilityUnit", "unseal", "(LCheriCore$Instruction;LCheriCore$Capability;LCheriCore$Capability;)I"⟩
theorem k_Cun_unseal : Ce y_Cun_unseal "CheriCore$CapabilityUnit" b_Cun_unseal 5 (some .int) 3 := ⟨tb_4_22, tb_s_15, tb_1_10, tb_4_23, by decide +kernel⟩
abbrev b_Cap_setPerms : ByteArray := prog_3_method_7_code
def y_Cap_setPerms : MethodName := ⟨"CheriCore$Capability", "setPerms", "(I)V"⟩
theorem k_Cap_setPerms : Ce y_Cap_setPerms "CheriCore$Capability" b_Cap_setPerms 2 none 1 := ⟨tb_4_27, tb_4_28, tb_1_3, tb_4_29, by decide +kernel⟩
abbrev b_Cun_andPerms : ByteArray := prog_4_method_10_code
def y_Cun_andPerms : MethodName := ⟨"CheriCore$CapabilityUnit", "andPerms", "(LCheriCore$Instruction;LCheriCore$Capability;I)I"⟩
theorem k_Cun_andPerms : Ce y_Cun_andPerms "CheriCore$CapabilityUnit" b_Cun_andPerms 4 (some .int) 3 := ⟨tb_4_33, tb_s_16, tb_1_10, tb_4_34, by decide +kernel⟩
abbrev b_Cun_move : ByteArray := prog_4_method_4_code
def y_Cun_move : MethodName := ⟨"CheriCore$CapabilityUnit", "move", "(LCheriCore$Instruction;LCheriCore$Capability;I)I"⟩
theorem k_Cun_move : Ce y_Cun_move "CheriCore$CapabilityUnit" b_Cun_move 4 (some .int) 3 := ⟨tb_4_37, tb_s_17, tb_1_10, tb_4_38, by decide +kernel⟩
abbrev b_Cap_moveTo : ByteArray := prog_3_method_5_code
def y_Cap_moveTo : MethodName := ⟨"CheriCore$Capability", "moveTo", "(I)V"⟩
theorem k_Cap_moveTo : Ce y_Cap_moveTo "CheriCore$Capability" b_Cap_moveTo 6 none 1 := ⟨tb_4_40, tb_4_41, tb_1_3, tb_4_42, by decide +kernel⟩
abbrev b_Sta_answerNumber : ByteArray := prog_10_method_10_code
def y_Sta_answerNumber : MethodName := ⟨"CheriCore$State", "answerNumber", "(II)I"⟩
theorem k_Sta_answerNumber : Ce y_Sta_answerNumber "CheriCore$State" b_Sta_answerNumber 3 (some .int) 2 := ⟨tb_4_45, tb_4_46, tb_1_2, tb_4_47, by decide +kernel⟩
abbrev b_Cap_becomeNumber : ByteArray := prog_3_method_3_code
def y_Cap_becomeNumber : MethodName := ⟨"CheriCore$Capability", "becomeNumber", "(I)V"⟩
theorem k_Cap_becomeNumber : Ce y_Cap_becomeNumber "CheriCore$Capability" b_Cap_becomeNumber 2 none 1 := ⟨tb_4_49, tb_4_50, tb_1_3, tb_4_51, by decide +kernel⟩
abbrev b_Cun_setHigh : ByteArray := prog_4_method_11_code
def y_Cun_setHigh : MethodName := ⟨"CheriCore$CapabilityUnit", "setHigh", "(LCheriCore$Instruction;LCheriCore$Capability;I)I"⟩
theorem k_Cun_setHigh : Ce y_Cun_setHigh "CheriCore$CapabilityUnit" b_Cun_setHigh 4 (some .int) 3 := ⟨tb_4_54, tb_s_18, tb_1_10, tb_4_55, by decide +kernel⟩
abbrev b_Cun_build : ByteArray := prog_4_method_12_code
def y_Cun_build : MethodName := ⟨"CheriCore$CapabilityUnit", "build", "(LCheriCore$Instruction;LCheriCore$Capability;LCheriCore$Capability;)I"⟩
theorem k_Cun_build : Ce y_Cun_build "CheriCore$CapabilityUnit" b_Cun_build 5 (some .int) 3 := ⟨tb_4_60, tb_s_19, tb_1_10, tb_4_61, by decide +kernel⟩
abbrev b_Cun_invoke : ByteArray := prog_4_method_13_code
def y_Cun_invoke : MethodName := ⟨"CheriCore$CapabilityUnit", "invoke", "(LCheriCore$Instruction;LCheriCore$Capability;LCheriCore$Capability;)I"⟩
theorem k_Cun_invoke : Ce y_Cun_invoke "CheriCore$CapabilityUnit" b_Cun_invoke 6 (some .int) 3 := ⟨tb_4_65, tb_s_20, tb_1_10, tb_4_66, by decide +kernel⟩
abbrev b_Cun_invokeFault : ByteArray := prog_4_method_14_code
def y_Cun_invokeFault : MethodName := ⟨"CheriCore$CapabilityUnit", "invokeFault", "(LCheriCore$Instruction;LCheriCore$Capability;LCheriCore$Capability;)I"⟩
theorem k_Cun_invokeFault : Ce y_Cun_invokeFault "CheriCore$CapabilityUnit" b_Cun_invokeFault 5 (some .int) 3 := ⟨tb_4_69, tb_s_21, tb_1_10, tb_4_70, by decide +kernel⟩
abbrev b_Cun_inspect : ByteArray := prog_4_method_15_code
def y_Cun_inspect : MethodName := ⟨"CheriCore$CapabilityUnit", "inspect", "(LCheriCore$Instruction;LCheriCore$Capability;)I"⟩
theorem k_Cun_inspect : Ce y_Cun_inspect "CheriCore$CapabilityUnit" b_Cun_inspect 3 (some .int) 2 := ⟨tb_4_75, tb_s_22, tb_1_10, tb_4_76, by decide +kernel⟩
abbrev b_Cap_length : ByteArray := prog_3_method_14_code
def y_Cap_length : MethodName := ⟨"CheriCore$Capability", "length", "()I"⟩
theorem k_Cap_length : Ce y_Cap_length "CheriCore$Capability" b_Cap_length 1 (some .int) 0 := ⟨tb_4_78, tb_4_79, tb_1_3, tb_4_80, by decide +kernel⟩
abbrev b_Cun_representable : ByteArray := prog_4_method_16_code
def y_Cun_representable : MethodName := ⟨"CheriCore$CapabilityUnit", "representable", "(LCheriCore$Instruction;IZ)I"⟩
theorem k_Cun_representable : Ce y_Cun_representable "CheriCore$CapabilityUnit" b_Cun_representable 5 (some .int) 3 := ⟨tb_4_84, tb_s_23, tb_1_10, tb_4_85, by decide +kernel⟩
abbrev b_Cun_copy : ByteArray := prog_4_method_17_code
def y_Cun_copy : MethodName := ⟨"CheriCore$CapabilityUnit", "copy", "(LCheriCore$Instruction;LCheriCore$Capability;Z)I"⟩
theorem k_Cun_copy : Ce y_Cun_copy "CheriCore$CapabilityUnit" b_Cun_copy 4 (some .int) 3 := ⟨tb_4_88, tb_s_24, tb_1_10, tb_4_89, by decide +kernel⟩
abbrev b_Cun_sealEntry : ByteArray := prog_4_method_18_code
def y_Cun_sealEntry : MethodName := ⟨"CheriCore$CapabilityUnit", "sealEntry", "(LCheriCore$Instruction;LCheriCore$Capability;)I"⟩
theorem k_Cun_sealEntry : Ce y_Cun_sealEntry "CheriCore$CapabilityUnit" b_Cun_sealEntry 3 (some .int) 2 := ⟨tb_4_92, tb_s_25, tb_1_10, tb_4_93, by decide +kernel⟩
abbrev b_Cap_toldMeta : ByteArray := prog_3_method_13_code
def y_Cap_toldMeta : MethodName := ⟨"CheriCore$Capability", "toldMeta", "()I"⟩
theorem k_Cap_toldMeta : Ce y_Cap_toldMeta "CheriCore$Capability" b_Cap_toldMeta 1 (some .int) 0 := ⟨tb_4_95, tb_4_96, tb_1_3, tb_4_97, by decide +kernel⟩
abbrev b_Bas_execute : ByteArray := prog_2_method_2_code
def y_Bas_execute : MethodName := ⟨"CheriCore$BaseUnit", "execute", "(LCheriCore$Instruction;)I"⟩
theorem k_Bas_execute : Ce y_Bas_execute "CheriCore$BaseUnit" b_Bas_execute 2 (some .int) 1 := ⟨tb_4_99, tb_4_100, tb_1_9, tb_4_101, by decide +kernel⟩
abbrev b_Bas_load : ByteArray := prog_2_method_13_code
def y_Bas_load : MethodName := ⟨"CheriCore$BaseUnit", "load", "(LCheriCore$Instruction;)I"⟩
theorem k_Bas_load : Ce y_Bas_load "CheriCore$BaseUnit" b_Bas_load 5 (some .int) 1 := ⟨tb_4_104, tb_s_26, tb_1_9, tb_4_105, by decide +kernel⟩
abbrev b_Bas_loadCapability : ByteArray := prog_2_method_15_code
def y_Bas_loadCapability : MethodName := ⟨"CheriCore$BaseUnit", "loadCapability", "(LCheriCore$Instruction;I)I"⟩
theorem k_Bas_loadCapability : Ce y_Bas_loadCapability "CheriCore$BaseUnit" b_Bas_loadCapability 5 (some .int) 2 := ⟨tb_4_111, tb_s_27, tb_1_9, tb_4_112, by decide +kernel⟩
abbrev b_Mem_readTag : ByteArray := prog_7_method_3_code
def y_Mem_readTag : MethodName := ⟨"CheriCore$Memory", "readTag", "(I)Z"⟩
theorem k_Mem_readTag : Ce y_Mem_readTag "CheriCore$Memory" b_Mem_readTag 2 (some .boolean) 1 := ⟨tb_4_115, tb_4_116, tb_1_4, tb_4_117, by decide +kernel⟩
abbrev b_Bas_loaded : ByteArray := prog_2_method_14_code
def y_Bas_loaded : MethodName := ⟨"CheriCore$BaseUnit", "loaded", "(II)I"⟩
theorem k_Bas_loaded : Ce y_Bas_loaded "CheriCore$BaseUnit" b_Bas_loaded 4 (some .int) 2 := ⟨tb_4_124, tb_s_28, tb_1_9, tb_4_125, by decide +kernel⟩
abbrev b_Bas_operateImmediate : ByteArray := prog_2_method_5_code
def y_Bas_operateImmediate : MethodName := ⟨"CheriCore$BaseUnit", "operateImmediate", "(LCheriCore$Instruction;)I"⟩
theorem k_Bas_operateImmediate : Ce y_Bas_operateImmediate "CheriCore$BaseUnit" b_Bas_operateImmediate 5 (some .int) 1 := ⟨tb_4_130, tb_s_29, tb_1_9, tb_4_131, by decide +kernel⟩
abbrev b_Bas_computed : ByteArray := prog_2_method_6_code
def y_Bas_computed : MethodName := ⟨"CheriCore$BaseUnit", "computed", "(IZII)I"⟩
theorem k_Bas_computed : Cs y_Bas_computed b_Bas_computed 4 (some .int) 4 := ⟨tb_4_133, tb_1_9, tb_4_134, by decide +kernel⟩
abbrev b_Int_compareUnsigned : ByteArray := prog_18_method_41_code
def y_Int_compareUnsigned : MethodName := ⟨"java/lang/Integer", "compareUnsigned", "(II)I"⟩
theorem k_Int_compareUnsigned : Cs y_Int_compareUnsigned b_Int_compareUnsigned 2 (some .int) 2 := ⟨tb_4_136, tb_1_21, tb_4_137, by decide +kernel⟩
abbrev b_Int_compare : ByteArray := prog_18_method_40_code
def y_Int_compare : MethodName := ⟨"java/lang/Integer", "compare", "(II)I"⟩
theorem k_Int_compare : Cs y_Int_compare b_Int_compare 2 (some .int) 2 := ⟨tb_4_140, tb_1_21, tb_4_141, by decide +kernel⟩
abbrev b_Bas_addToPcc : ByteArray := prog_2_method_3_code
def y_Bas_addToPcc : MethodName := ⟨"CheriCore$BaseUnit", "addToPcc", "(LCheriCore$Instruction;)I"⟩
theorem k_Bas_addToPcc : Ce y_Bas_addToPcc "CheriCore$BaseUnit" b_Bas_addToPcc 2 (some .int) 1 := ⟨tb_4_144, tb_s_30, tb_1_9, tb_4_145, by decide +kernel⟩
abbrev b_Bas_store : ByteArray := prog_2_method_16_code
def y_Bas_store : MethodName := ⟨"CheriCore$BaseUnit", "store", "(LCheriCore$Instruction;)I"⟩
theorem k_Bas_store : Ce y_Bas_store "CheriCore$BaseUnit" b_Bas_store 6 (some .int) 1 := ⟨tb_4_150, tb_s_31, tb_1_9, tb_4_151, by decide +kernel⟩
abbrev b_Bas_capabilityStoreFault : ByteArray := prog_2_method_17_code
def y_Bas_capabilityStoreFault : MethodName := ⟨"CheriCore$BaseUnit", "capabilityStoreFault", "(LCheriCore$Instruction;)I"⟩
theorem k_Bas_capabilityStoreFault : Ce y_Bas_capabilityStoreFault "CheriCore$BaseUnit" b_Bas_capabilityStoreFault 4 (some .int) 1 := ⟨tb_4_154, tb_s_32, tb_1_9, tb_4_155, by decide +kernel⟩
abbrev b_Bas_storeCapability : ByteArray := prog_2_method_18_code
def y_Bas_storeCapability : MethodName := ⟨"CheriCore$BaseUnit", "storeCapability", "(ILCheriCore$Capability;)V"⟩
theorem k_Bas_storeCapability : Ce y_Bas_storeCapability "CheriCore$BaseUnit" b_Bas_storeCapability 3 none 2 := ⟨tb_4_159, tb_s_33, tb_1_9, tb_4_160, by decide +kernel⟩
abbrev b_Mem_writeTag : ByteArray := prog_7_method_5_code
def y_Mem_writeTag : MethodName := ⟨"CheriCore$Memory", "writeTag", "(I)V"⟩
theorem k_Mem_writeTag : Ce y_Mem_writeTag "CheriCore$Memory" b_Mem_writeTag 3 none 1 := ⟨tb_4_164, tb_4_165, tb_1_4, tb_4_166, by decide +kernel⟩
abbrev b_Bas_storeNumber : ByteArray := prog_2_method_19_code
def y_Bas_storeNumber : MethodName := ⟨"CheriCore$BaseUnit", "storeNumber", "(III)V"⟩
theorem k_Bas_storeNumber : Ce y_Bas_storeNumber "CheriCore$BaseUnit" b_Bas_storeNumber 7 none 3 := ⟨tb_4_170, tb_s_34, tb_1_9, tb_4_171, by decide +kernel⟩
abbrev b_Bas_operate : ByteArray := prog_2_method_4_code
def y_Bas_operate : MethodName := ⟨"CheriCore$BaseUnit", "operate", "(LCheriCore$Instruction;)I"⟩
theorem k_Bas_operate : Ce y_Bas_operate "CheriCore$BaseUnit" b_Bas_operate 4 (some .int) 1 := ⟨tb_4_174, tb_s_35, tb_1_9, tb_4_175, by decide +kernel⟩
abbrev b_Bas_branch : ByteArray := prog_2_method_7_code
def y_Bas_branch : MethodName := ⟨"CheriCore$BaseUnit", "branch", "(LCheriCore$Instruction;)I"⟩
theorem k_Bas_branch : Ce y_Bas_branch "CheriCore$BaseUnit" b_Bas_branch 6 (some .int) 1 := ⟨tb_4_178, tb_s_36, tb_1_9, tb_4_179, by decide +kernel⟩
abbrev b_Bas_isTaken : ByteArray := prog_2_method_8_code
def y_Bas_isTaken : MethodName := ⟨"CheriCore$BaseUnit", "isTaken", "(III)Z"⟩
theorem k_Bas_isTaken : Cs y_Bas_isTaken b_Bas_isTaken 3 (some .boolean) 3 := ⟨tb_4_181, tb_1_9, tb_4_182, by decide +kernel⟩
abbrev b_Bas_jumpFault : ByteArray := prog_2_method_10_code
def y_Bas_jumpFault : MethodName := ⟨"CheriCore$BaseUnit", "jumpFault", "(I)I"⟩
theorem k_Bas_jumpFault : Ce y_Bas_jumpFault "CheriCore$BaseUnit" b_Bas_jumpFault 2 (some .int) 1 := ⟨tb_4_185, tb_s_37, tb_1_9, tb_4_186, by decide +kernel⟩
abbrev b_Bas_jumpByRegister : ByteArray := prog_2_method_11_code
def y_Bas_jumpByRegister : MethodName := ⟨"CheriCore$BaseUnit", "jumpByRegister", "(LCheriCore$Instruction;)I"⟩
theorem k_Bas_jumpByRegister : Ce y_Bas_jumpByRegister "CheriCore$BaseUnit" b_Bas_jumpByRegister 5 (some .int) 1 := ⟨tb_4_192, tb_s_38, tb_1_9, tb_4_193, by decide +kernel⟩
abbrev b_Bas_wrongOfJump : ByteArray := prog_2_method_12_code
def y_Bas_wrongOfJump : MethodName := ⟨"CheriCore$BaseUnit", "wrongOfJump", "(LCheriCore$Capability;II)I"⟩
theorem k_Bas_wrongOfJump : Cs y_Bas_wrongOfJump b_Bas_wrongOfJump 3 (some .int) 3 := ⟨tb_4_195, tb_1_9, tb_4_196, by decide +kernel⟩
abbrev b_Sta_link : ByteArray := prog_10_method_8_code
def y_Sta_link : MethodName := ⟨"CheriCore$State", "link", "(I)V"⟩
theorem k_Sta_link : Ce y_Sta_link "CheriCore$State" b_Sta_link 2 none 1 := ⟨tb_4_199, tb_4_200, tb_1_2, tb_4_201, by decide +kernel⟩
abbrev b_Bas_jump : ByteArray := prog_2_method_9_code
def y_Bas_jump : MethodName := ⟨"CheriCore$BaseUnit", "jump", "(LCheriCore$Instruction;)I"⟩
theorem k_Bas_jump : Ce y_Bas_jump "CheriCore$BaseUnit" b_Bas_jump 4 (some .int) 1 := ⟨tb_4_208, tb_s_39, tb_1_9, tb_4_209, by decide +kernel⟩
abbrev b_Bas_system : ByteArray := prog_2_method_20_code
def y_Bas_system : MethodName := ⟨"CheriCore$BaseUnit", "system", "(LCheriCore$Instruction;)I"⟩
theorem k_Bas_system : Ce y_Bas_system "CheriCore$BaseUnit" b_Bas_system 4 (some .int) 1 := ⟨tb_4_212, tb_s_40, tb_1_9, tb_4_213, by decide +kernel⟩
abbrev b_Bas_changeCsr : ByteArray := prog_2_method_22_code
def y_Bas_changeCsr : MethodName := ⟨"CheriCore$BaseUnit", "changeCsr", "(LCheriCore$Instruction;Z)I"⟩
theorem k_Bas_changeCsr : Ce y_Bas_changeCsr "CheriCore$BaseUnit" b_Bas_changeCsr 6 (some .int) 2 := ⟨tb_4_218, tb_s_41, tb_1_9, tb_4_219, by decide +kernel⟩
abbrev b_Bas_returnFromTrap : ByteArray := prog_2_method_21_code
def y_Bas_returnFromTrap : MethodName := ⟨"CheriCore$BaseUnit", "returnFromTrap", "()I"⟩
theorem k_Bas_returnFromTrap : Ce y_Bas_returnFromTrap "CheriCore$BaseUnit" b_Bas_returnFromTrap 1 (some .int) 0 := ⟨tb_4_222, tb_s_42, tb_1_9, tb_4_223, by decide +kernel⟩
abbrev b_Cor_takeTrap : ByteArray := prog_1_method_18_code
def y_Cor_takeTrap : MethodName := ⟨"CheriCore", "takeTrap", "(I)V"⟩
theorem k_Cor_takeTrap : Ce y_Cor_takeTrap "CheriCore" b_Cor_takeTrap 2 none 1 := ⟨tb_4_226, tb_s_43, tb_1_1, tb_4_227, by decide +kernel⟩
abbrev b_Cor_told : ByteArray := prog_1_method_6_code
def y_Cor_told : MethodName := ⟨"CheriCore", "told", "(II)I"⟩
theorem k_Cor_told : Ce y_Cor_told "CheriCore" b_Cor_told 4 (some .int) 2 := ⟨tb_4_233, tb_4_234, tb_1_1, tb_4_235, by decide +kernel⟩
abbrev b_Cor_memory : ByteArray := prog_1_method_7_code
def y_Cor_memory : MethodName := ⟨"CheriCore", "memory", "(I)I"⟩
theorem k_Cor_memory : Ce y_Cor_memory "CheriCore" b_Cor_memory 2 (some .int) 1 := ⟨tb_5_5, tb_5_6, tb_1_1, tb_5_7, by decide +kernel⟩
abbrev b_Cor_tag : ByteArray := prog_1_method_8_code
def y_Cor_tag : MethodName := ⟨"CheriCore", "tag", "(I)Z"⟩
theorem k_Cor_tag : Ce y_Cor_tag "CheriCore" b_Cor_tag 2 (some .boolean) 1 := ⟨tb_5_12, tb_5_13, tb_1_1, tb_5_14, by decide +kernel⟩
abbrev b_Cor_count : ByteArray := prog_1_method_9_code
def y_Cor_count : MethodName := ⟨"CheriCore", "count", "(I)I"⟩
theorem k_Cor_count : Ce y_Cor_count "CheriCore" b_Cor_count 2 (some .int) 1 := ⟨tb_5_19, tb_5_20, tb_1_1, tb_5_21, by decide +kernel⟩
abbrev b_Mem_tagsHeld : ByteArray := prog_7_method_8_code
def y_Mem_tagsHeld : MethodName := ⟨"CheriCore$Memory", "tagsHeld", "()I"⟩
theorem k_Mem_tagsHeld : Ce y_Mem_tagsHeld "CheriCore$Memory" b_Mem_tagsHeld 3 (some .int) 0 := ⟨tb_5_23, tb_5_24, tb_1_4, tb_5_25, by decide +kernel⟩
abbrev b_Cor_pack : ByteArray := prog_1_method_10_code
def y_Cor_pack : MethodName := ⟨"CheriCore", "pack", "(IJ)I"⟩
theorem k_Cor_pack : Ce y_Cor_pack "CheriCore" b_Cor_pack 6 (some .int) 2 := ⟨tb_5_31, tb_5_32, tb_1_1, tb_5_33, by decide +kernel⟩
abbrev b_Mod_init : ByteArray := prog_13_method_1_code
def y_Mod_init : MethodName := ⟨"CheriCoreModel", "<init>", "()V"⟩
theorem k_Mod_init : Ci y_Mod_init b_Mod_init 2 0 := ⟨tb_5_39, tb_1_12, tb_5_40, by decide +kernel⟩
abbrev b_Mod_thrown : ByteArray := prog_13_method_2_code
def y_Mod_thrown : MethodName := ⟨"CheriCoreModel", "thrown", "()I"⟩
theorem k_Mod_thrown : Ce y_Mod_thrown "CheriCoreModel" b_Mod_thrown 1 (some .int) 0 := ⟨tb_5_103, tb_5_104, tb_1_12, tb_5_105, by decide +kernel⟩
abbrev b_Mod_word : ByteArray := prog_13_method_46_code
def y_Mod_word : MethodName := ⟨"CheriCoreModel", "word", "(II)I"⟩
theorem k_Mod_word : Ce y_Mod_word "CheriCoreModel" b_Mod_word 4 (some .int) 2 := ⟨tb_5_107, tb_5_108, tb_1_12, tb_5_109, by decide +kernel⟩
abbrev b_Mod_fail : ByteArray := prog_13_method_3_code
def y_Mod_fail : MethodName := ⟨"CheriCoreModel", "fail", "(I)I"⟩
theorem k_Mod_fail : Ce y_Mod_fail "CheriCoreModel" b_Mod_fail 2 (some .int) 1 := ⟨tb_5_112, tb_s_44, tb_1_12, tb_5_113, by decide +kernel⟩
abbrev b_Mod_root : ByteArray := prog_13_method_47_code
def y_Mod_root : MethodName := ⟨"CheriCoreModel", "root", "(IIII)I"⟩
theorem k_Mod_root : Ce y_Mod_root "CheriCoreModel" b_Mod_root 5 (some .int) 4 := ⟨tb_5_115, tb_5_116, tb_1_12, tb_5_117, by decide +kernel⟩
abbrev b_Mod_low : ByteArray := prog_13_method_4_code
def y_Mod_low : MethodName := ⟨"CheriCoreModel", "low", "(I)J"⟩
theorem k_Mod_low : Cs y_Mod_low b_Mod_low 1 (some .long) 1 := ⟨tb_5_119, tb_1_12, tb_5_120, by decide +kernel⟩
abbrev b_Mod_pack : ByteArray := prog_13_method_18_code
def y_Mod_pack : MethodName := ⟨"CheriCoreModel", "pack", "(JJ)V"⟩
theorem k_Mod_pack : Ce y_Mod_pack "CheriCoreModel" b_Mod_pack 16 none 2 := ⟨tb_5_125, tb_s_45, tb_1_12, tb_5_126, by decide +kernel⟩
abbrev b_Mod_set : ByteArray := prog_13_method_19_code
def y_Mod_set : MethodName := ⟨"CheriCoreModel", "set", "(IZII)V"⟩
theorem k_Mod_set : Ce y_Mod_set "CheriCoreModel" b_Mod_set 5 none 4 := ⟨tb_5_133, tb_s_46, tb_1_12, tb_5_134, by decide +kernel⟩
abbrev b_Mod_base : ByteArray := prog_13_method_14_code
def y_Mod_base : MethodName := ⟨"CheriCoreModel", "base", "(II)J"⟩
theorem k_Mod_base : Cs y_Mod_base b_Mod_base 2 (some .long) 2 := ⟨tb_5_136, tb_1_12, tb_5_137, by decide +kernel⟩
abbrev b_Mod_bottom : ByteArray := prog_13_method_10_code
def y_Mod_bottom : MethodName := ⟨"CheriCoreModel", "bottom", "(I)I"⟩
theorem k_Mod_bottom : Cs y_Mod_bottom b_Mod_bottom 1 (some .int) 1 := ⟨tb_5_139, tb_1_12, tb_5_140, by decide +kernel⟩
abbrev b_Mod_scale : ByteArray := prog_13_method_9_code
def y_Mod_scale : MethodName := ⟨"CheriCoreModel", "scale", "(I)I"⟩
theorem k_Mod_scale : Cs y_Mod_scale b_Mod_scale 2 (some .int) 1 := ⟨tb_5_142, tb_1_12, tb_5_143, by decide +kernel⟩
abbrev b_Mod_window : ByteArray := prog_13_method_13_code
def y_Mod_window : MethodName := ⟨"CheriCoreModel", "window", "(II)J"⟩
theorem k_Mod_window : Cs y_Mod_window b_Mod_window 7 (some .long) 2 := ⟨tb_5_145, tb_1_12, tb_5_146, by decide +kernel⟩
abbrev b_Math_floorModL : ByteArray := prog_19_method_52_code
def y_Math_floorModL : MethodName := ⟨"java/lang/Math", "floorMod", "(JJ)J"⟩
theorem k_Math_floorModL : Cs y_Math_floorModL b_Math_floorModL 6 (some .long) 2 := ⟨tb_5_148, tb_1_20, tb_5_149, by decide +kernel⟩
abbrev b_Mod_inWindow : ByteArray := prog_13_method_12_code
def y_Mod_inWindow : MethodName := ⟨"CheriCoreModel", "inWindow", "(IIJ)J"⟩
theorem k_Mod_inWindow : Cs y_Mod_inWindow b_Mod_inWindow 8 (some .long) 3 := ⟨tb_5_151, tb_1_12, tb_5_152, by decide +kernel⟩
abbrev b_Mod_top : ByteArray := prog_13_method_15_code
def y_Mod_top : MethodName := ⟨"CheriCoreModel", "top", "(II)J"⟩
theorem k_Mod_top : Cs y_Mod_top b_Mod_top 7 (some .long) 2 := ⟨tb_5_154, tb_1_12, tb_5_155, by decide +kernel⟩
abbrev b_Mod_roof : ByteArray := prog_13_method_11_code
def y_Mod_roof : MethodName := ⟨"CheriCoreModel", "roof", "(I)I"⟩
theorem k_Mod_roof : Cs y_Mod_roof b_Mod_roof 5 (some .int) 1 := ⟨tb_5_157, tb_1_12, tb_5_158, by decide +kernel⟩
abbrev b_Mod_put : ByteArray := prog_13_method_48_code
def y_Mod_put : MethodName := ⟨"CheriCoreModel", "put", "(III)V"⟩
theorem k_Mod_put : Ce y_Mod_put "CheriCoreModel" b_Mod_put 4 none 3 := ⟨tb_5_161, tb_5_162, tb_1_12, tb_5_163, by decide +kernel⟩
abbrev b_Mod_run : ByteArray := prog_13_method_49_code
def y_Mod_run : MethodName := ⟨"CheriCoreModel", "run", "(I)I"⟩
theorem k_Mod_run : Ce y_Mod_run "CheriCoreModel" b_Mod_run 3 (some .int) 1 := ⟨tb_5_165, tb_5_166, tb_1_12, tb_5_167, by decide +kernel⟩
abbrev b_Mod_step : ByteArray := prog_13_method_30_code
def y_Mod_step : MethodName := ⟨"CheriCoreModel", "step", "()V"⟩
theorem k_Mod_step : Ce y_Mod_step "CheriCoreModel" b_Mod_step 2 none 0 := ⟨tb_5_170, tb_s_47, tb_1_12, tb_5_171, by decide +kernel⟩
abbrev b_Mod_stop : ByteArray := prog_13_method_27_code
def y_Mod_stop : MethodName := ⟨"CheriCoreModel", "stop", "()I"⟩
theorem k_Mod_stop : Ce y_Mod_stop "CheriCoreModel" b_Mod_stop 3 (some .int) 0 := ⟨tb_5_174, tb_s_48, tb_1_12, tb_5_175, by decide +kernel⟩
abbrev b_Mod_reach : ByteArray := prog_13_method_26_code
def y_Mod_reach : MethodName := ⟨"CheriCoreModel", "reach", "(IJIII)I"⟩
theorem k_Mod_reach : Ce y_Mod_reach "CheriCoreModel" b_Mod_reach 7 (some .int) 5 := ⟨tb_5_178, tb_s_49, tb_1_12, tb_5_179, by decide +kernel⟩
abbrev b_Mod_isOpen : ByteArray := prog_13_method_24_code
def y_Mod_isOpen : MethodName := ⟨"CheriCoreModel", "isOpen", "(I)Z"⟩
theorem k_Mod_isOpen : Ce y_Mod_isOpen "CheriCoreModel" b_Mod_isOpen 2 (some .boolean) 1 := ⟨tb_5_182, tb_s_50, tb_1_12, tb_5_183, by decide +kernel⟩
abbrev b_Mod_type : ByteArray := prog_13_method_6_code
def y_Mod_type : MethodName := ⟨"CheriCoreModel", "type", "(I)I"⟩
theorem k_Mod_type : Cs y_Mod_type b_Mod_type 1 (some .int) 1 := ⟨tb_5_185, tb_1_12, tb_5_186, by decide +kernel⟩
abbrev b_Mod_has : ByteArray := prog_13_method_23_code
def y_Mod_has : MethodName := ⟨"CheriCoreModel", "has", "(II)Z"⟩
theorem k_Mod_has : Ce y_Mod_has "CheriCoreModel" b_Mod_has 3 (some .boolean) 2 := ⟨tb_5_189, tb_s_51, tb_1_12, tb_5_190, by decide +kernel⟩
abbrev b_Mod_perms : ByteArray := prog_13_method_5_code
def y_Mod_perms : MethodName := ⟨"CheriCoreModel", "perms", "(I)I"⟩
theorem k_Mod_perms : Cs y_Mod_perms b_Mod_perms 1 (some .int) 1 := ⟨tb_5_192, tb_1_12, tb_5_193, by decide +kernel⟩
abbrev b_Mod_holds : ByteArray := prog_13_method_25_code
def y_Mod_holds : MethodName := ⟨"CheriCoreModel", "holds", "(IJI)Z"⟩
theorem k_Mod_holds : Ce y_Mod_holds "CheriCoreModel" b_Mod_holds 5 (some .boolean) 3 := ⟨tb_5_196, tb_s_52, tb_1_12, tb_5_197, by decide +kernel⟩
abbrev b_Mod_isIn : ByteArray := prog_13_method_16_code
def y_Mod_isIn : MethodName := ⟨"CheriCoreModel", "isIn", "(IIJI)Z"⟩
theorem k_Mod_isIn : Cs y_Mod_isIn b_Mod_isIn 5 (some .boolean) 4 := ⟨tb_5_199, tb_1_12, tb_5_200, by decide +kernel⟩
abbrev b_Mod_trap : ByteArray := prog_13_method_28_code
def y_Mod_trap : MethodName := ⟨"CheriCoreModel", "trap", "(II)Z"⟩
theorem k_Mod_trap : Ce y_Mod_trap "CheriCoreModel" b_Mod_trap 3 (some .boolean) 2 := ⟨tb_5_204, tb_s_53, tb_1_12, tb_5_205, by decide +kernel⟩
abbrev b_Mod_copy : ByteArray := prog_13_method_20_code
def y_Mod_copy : MethodName := ⟨"CheriCoreModel", "copy", "(II)V"⟩
theorem k_Mod_copy : Ce y_Mod_copy "CheriCoreModel" b_Mod_copy 3 none 2 := ⟨tb_5_208, tb_s_54, tb_1_12, tb_5_209, by decide +kernel⟩
abbrev b_Mod_instruction : ByteArray := prog_13_method_31_code
def y_Mod_instruction : MethodName := ⟨"CheriCoreModel", "instruction", "(I)Z"⟩
theorem k_Mod_instruction : Ce y_Mod_instruction "CheriCoreModel" b_Mod_instruction 11 (some .boolean) 1 := ⟨tb_5_212, tb_s_55, tb_1_12, tb_5_213, by decide +kernel⟩
abbrev b_Mod_number : ByteArray := prog_13_method_21_code
def y_Mod_number : MethodName := ⟨"CheriCoreModel", "number", "(II)V"⟩
theorem k_Mod_number : Ce y_Mod_number "CheriCoreModel" b_Mod_number 3 none 2 := ⟨tb_5_216, tb_s_56, tb_1_12, tb_5_217, by decide +kernel⟩
abbrev b_Mod_moved : ByteArray := prog_13_method_22_code
def y_Mod_moved : MethodName := ⟨"CheriCoreModel", "moved", "(III)V"⟩
theorem k_Mod_moved : Ce y_Mod_moved "CheriCoreModel" b_Mod_moved 4 none 3 := ⟨tb_5_220, tb_s_57, tb_1_12, tb_5_221, by decide +kernel⟩
abbrev b_Mod_same : ByteArray := prog_13_method_17_code
def y_Mod_same : MethodName := ⟨"CheriCoreModel", "same", "(III)Z"⟩
theorem k_Mod_same : Ce y_Mod_same "CheriCoreModel" b_Mod_same 4 (some .boolean) 3 := ⟨tb_5_224, tb_s_58, tb_1_12, tb_5_225, by decide +kernel⟩
abbrev b_Mod_link : ByteArray := prog_13_method_33_code
def y_Mod_link : MethodName := ⟨"CheriCoreModel", "link", "()V"⟩
theorem k_Mod_link : Ce y_Mod_link "CheriCoreModel" b_Mod_link 1 none 0 := ⟨tb_5_229, tb_s_59, tb_1_12, tb_5_230, by decide +kernel⟩
abbrev b_Mod_withType : ByteArray := prog_13_method_7_code
def y_Mod_withType : MethodName := ⟨"CheriCoreModel", "withType", "(II)I"⟩
theorem k_Mod_withType : Cs y_Mod_withType b_Mod_withType 2 (some .int) 2 := ⟨tb_5_232, tb_1_12, tb_5_233, by decide +kernel⟩
abbrev b_Mod_jump : ByteArray := prog_13_method_34_code
def y_Mod_jump : MethodName := ⟨"CheriCoreModel", "jump", "(I)Z"⟩
theorem k_Mod_jump : Ce y_Mod_jump "CheriCoreModel" b_Mod_jump 2 (some .boolean) 1 := ⟨tb_5_237, tb_s_60, tb_1_12, tb_5_238, by decide +kernel⟩
abbrev b_Mod_jumpBy : ByteArray := prog_13_method_35_code
def y_Mod_jumpBy : MethodName := ⟨"CheriCoreModel", "jumpBy", "(IIII)Z"⟩
theorem k_Mod_jumpBy : Ce y_Mod_jumpBy "CheriCoreModel" b_Mod_jumpBy 5 (some .boolean) 4 := ⟨tb_6_1, tb_s_61, tb_1_12, tb_6_2, by decide +kernel⟩
abbrev b_Mod_broken : ByteArray := prog_13_method_29_code
def y_Mod_broken : MethodName := ⟨"CheriCoreModel", "broken", "(II)Z"⟩
theorem k_Mod_broken : Ce y_Mod_broken "CheriCoreModel" b_Mod_broken 3 (some .boolean) 2 := ⟨tb_6_5, tb_s_62, tb_1_12, tb_6_6, by decide +kernel⟩
abbrev b_Mod_load : ByteArray := prog_13_method_36_code
def y_Mod_load : MethodName := ⟨"CheriCoreModel", "load", "(IIII)Z"⟩
theorem k_Mod_load : Ce y_Mod_load "CheriCoreModel" b_Mod_load 8 (some .boolean) 4 := ⟨tb_6_9, tb_s_63, tb_1_12, tb_6_10, by decide +kernel⟩
abbrev b_Mod_store : ByteArray := prog_13_method_37_code
def y_Mod_store : MethodName := ⟨"CheriCoreModel", "store", "(IIII)Z"⟩
theorem k_Mod_store : Ce y_Mod_store "CheriCoreModel" b_Mod_store 9 (some .boolean) 4 := ⟨tb_6_13, tb_s_64, tb_1_12, tb_6_14, by decide +kernel⟩
abbrev b_Mod_operated : ByteArray := prog_13_method_32_code
def y_Mod_operated : MethodName := ⟨"CheriCoreModel", "operated", "(IIIZ)I"⟩
theorem k_Mod_operated : Cs y_Mod_operated b_Mod_operated 4 (some .int) 4 := ⟨tb_6_16, tb_1_12, tb_6_17, by decide +kernel⟩
abbrev b_Mod_system : ByteArray := prog_13_method_38_code
def y_Mod_system : MethodName := ⟨"CheriCoreModel", "system", "(IIIII)Z"⟩
theorem k_Mod_system : Ce y_Mod_system "CheriCoreModel" b_Mod_system 11 (some .boolean) 5 := ⟨tb_6_20, tb_s_65, tb_1_12, tb_6_21, by decide +kernel⟩
abbrev b_Mod_special : ByteArray := prog_13_method_42_code
def y_Mod_special : MethodName := ⟨"CheriCoreModel", "special", "(IIIIII)Z"⟩
theorem k_Mod_special : Ce y_Mod_special "CheriCoreModel" b_Mod_special 13 (some .boolean) 6 := ⟨tb_6_26, tb_s_66, tb_1_12, tb_6_27, by decide +kernel⟩
abbrev b_Mod_bounds : ByteArray := prog_13_method_39_code
def y_Mod_bounds : MethodName := ⟨"CheriCoreModel", "bounds", "(IIJZ)Z"⟩
theorem k_Mod_bounds : Ce y_Mod_bounds "CheriCoreModel" b_Mod_bounds 11 (some .boolean) 4 := ⟨tb_6_30, tb_s_67, tb_1_12, tb_6_31, by decide +kernel⟩
abbrev b_Mod_withPerms : ByteArray := prog_13_method_8_code
def y_Mod_withPerms : MethodName := ⟨"CheriCoreModel", "withPerms", "(II)I"⟩
theorem k_Mod_withPerms : Cs y_Mod_withPerms b_Mod_withPerms 2 (some .int) 2 := ⟨tb_6_34, tb_1_12, tb_6_35, by decide +kernel⟩
abbrev b_Mod_isWithin : ByteArray := prog_13_method_40_code
def y_Mod_isWithin : MethodName := ⟨"CheriCoreModel", "isWithin", "(II)Z"⟩
theorem k_Mod_isWithin : Ce y_Mod_isWithin "CheriCoreModel" b_Mod_isWithin 3 (some .boolean) 2 := ⟨tb_6_39, tb_s_68, tb_1_12, tb_6_40, by decide +kernel⟩
abbrev b_Mod_isAmong : ByteArray := prog_13_method_41_code
def y_Mod_isAmong : MethodName := ⟨"CheriCoreModel", "isAmong", "(II)Z"⟩
theorem k_Mod_isAmong : Ce y_Mod_isAmong "CheriCoreModel" b_Mod_isAmong 3 (some .boolean) 2 := ⟨tb_6_43, tb_s_69, tb_1_12, tb_6_44, by decide +kernel⟩
abbrev b_Mod_invoke : ByteArray := prog_13_method_45_code
def y_Mod_invoke : MethodName := ⟨"CheriCoreModel", "invoke", "(II)Z"⟩
theorem k_Mod_invoke : Ce y_Mod_invoke "CheriCoreModel" b_Mod_invoke 4 (some .boolean) 2 := ⟨tb_6_47, tb_s_70, tb_1_12, tb_6_48, by decide +kernel⟩
abbrev b_Mod_asked : ByteArray := prog_13_method_44_code
def y_Mod_asked : MethodName := ⟨"CheriCoreModel", "asked", "(IIII)Z"⟩
theorem k_Mod_asked : Ce y_Mod_asked "CheriCoreModel" b_Mod_asked 5 (some .boolean) 4 := ⟨tb_6_51, tb_s_71, tb_1_12, tb_6_52, by decide +kernel⟩
abbrev b_Mod_most : ByteArray := prog_13_method_43_code
def y_Mod_most : MethodName := ⟨"CheriCoreModel", "most", "(J)I"⟩
theorem k_Mod_most : Cs y_Mod_most b_Mod_most 2 (some .int) 1 := ⟨tb_6_54, tb_1_12, tb_6_55, by decide +kernel⟩
abbrev b_Mod_packP : ByteArray := prog_13_method_54_code
def y_Mod_packP : MethodName := ⟨"CheriCoreModel", "pack", "(IJ)I"⟩
theorem k_Mod_packP : Ce y_Mod_packP "CheriCoreModel" b_Mod_packP 4 (some .int) 2 := ⟨tb_6_57, tb_6_58, tb_1_12, tb_6_59, by decide +kernel⟩
abbrev b_Mod_told : ByteArray := prog_13_method_50_code
def y_Mod_told : MethodName := ⟨"CheriCoreModel", "told", "(II)I"⟩
theorem k_Mod_told : Ce y_Mod_told "CheriCoreModel" b_Mod_told 5 (some .int) 2 := ⟨tb_6_62, tb_6_63, tb_1_12, tb_6_64, by decide +kernel⟩
abbrev b_Mod_memory : ByteArray := prog_13_method_51_code
def y_Mod_memory : MethodName := ⟨"CheriCoreModel", "memory", "(I)I"⟩
theorem k_Mod_memory : Ce y_Mod_memory "CheriCoreModel" b_Mod_memory 2 (some .int) 1 := ⟨tb_6_66, tb_6_67, tb_1_12, tb_6_68, by decide +kernel⟩
abbrev b_Mod_tag : ByteArray := prog_13_method_52_code
def y_Mod_tag : MethodName := ⟨"CheriCoreModel", "tag", "(I)Z"⟩
theorem k_Mod_tag : Ce y_Mod_tag "CheriCoreModel" b_Mod_tag 2 (some .boolean) 1 := ⟨tb_6_70, tb_6_71, tb_1_12, tb_6_72, by decide +kernel⟩
abbrev b_Mod_count : ByteArray := prog_13_method_53_code
def y_Mod_count : MethodName := ⟨"CheriCoreModel", "count", "(I)I"⟩
theorem k_Mod_count : Ce y_Mod_count "CheriCoreModel" b_Mod_count 4 (some .int) 1 := ⟨tb_6_74, tb_6_75, tb_1_12, tb_6_76, by decide +kernel⟩
abbrev b_Mod_bound : ByteArray := prog_13_method_55_code
def y_Mod_bound : MethodName := ⟨"CheriCoreModel", "bound", "(IIZ)J"⟩
theorem k_Mod_bound : Ce y_Mod_bound "CheriCoreModel" b_Mod_bound 4 (some .long) 3 := ⟨tb_6_79, tb_6_80, tb_1_12, tb_6_81, by decide +kernel⟩
abbrev b_Mod_grown : ByteArray := prog_13_method_57_code
def y_Mod_grown : MethodName := ⟨"CheriCoreModel", "grown", "()I"⟩
theorem k_Mod_grown : Ce y_Mod_grown "CheriCoreModel" b_Mod_grown 3 (some .int) 0 := ⟨tb_6_83, tb_6_84, tb_1_12, tb_6_85, by decide +kernel⟩
abbrev b_Mod_isOfRoot : ByteArray := prog_13_method_56_code
def y_Mod_isOfRoot : MethodName := ⟨"CheriCoreModel", "isOfRoot", "(II)Z"⟩
theorem k_Mod_isOfRoot : Ce y_Mod_isOfRoot "CheriCoreModel" b_Mod_isOfRoot 4 (some .boolean) 2 := ⟨tb_6_88, tb_s_72, tb_1_12, tb_6_89, by decide +kernel⟩
abbrev b_Mod_check : ByteArray := prog_13_method_58_code
def y_Mod_check : MethodName := ⟨"CheriCoreModel", "check", "()I"⟩
theorem k_Mod_check : Ce y_Mod_check "CheriCoreModel" b_Mod_check 1 (some .int) 0 := ⟨tb_6_91, tb_6_92, tb_1_12, tb_6_93, by decide +kernel⟩
