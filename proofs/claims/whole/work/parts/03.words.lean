/-! words, by their places in the tables -/
theorem qw_0 : (Jvm.Cond.selects "FreeShelf" ({ cls := "FreeShelf", name := "toldOfRoutine", desc := "(II)I" } : Jvm.MethodName) ({ cls := "FreeShelf", name := "toldOfRoutine", desc := "(II)I" } : Jvm.MethodName)) ∈ zGW := zgs (q := (⟨"FreeShelf", "toldOfRoutine", "(II)I"⟩, 8)) (i := 0) rfl
theorem qw_1 : (Jvm.Cond.selects "FreeShelf$Machine" ({ cls := "FreeShelf$Machine", name := "advance", desc := "(I)V" } : Jvm.MethodName) ({ cls := "FreeShelf$Machine", name := "advance", desc := "(I)V" } : Jvm.MethodName)) ∈ zGW := zgs (q := (⟨"FreeShelf$Machine", "advance", "(I)V"⟩, 3)) (i := 1) rfl
theorem qw_2 : (Jvm.Cond.selects "FreeShelf$Machine" ({ cls := "FreeShelf$Machine", name := "beginCall", desc := "(II)V" } : Jvm.MethodName) ({ cls := "FreeShelf$Machine", name := "beginCall", desc := "(II)V" } : Jvm.MethodName)) ∈ zGW := zgs (q := (⟨"FreeShelf$Machine", "beginCall", "(II)V"⟩, 3)) (i := 2) rfl
theorem qw_3 : (Jvm.Cond.selects "FreeShelf$Machine" ({ cls := "FreeShelf$Machine", name := "callsOver", desc := "()I" } : Jvm.MethodName) ({ cls := "FreeShelf$Machine", name := "callsOver", desc := "()I" } : Jvm.MethodName)) ∈ zGW := zgs (q := (⟨"FreeShelf$Machine", "callsOver", "()I"⟩, 3)) (i := 3) rfl
theorem qw_4 : (Jvm.Cond.selects "FreeShelf$Machine" ({ cls := "FreeShelf$Machine", name := "ownActs", desc := "(III)I" } : Jvm.MethodName) ({ cls := "FreeShelf$Machine", name := "ownActs", desc := "(III)I" } : Jvm.MethodName)) ∈ zGW := zgs (q := (⟨"FreeShelf$Machine", "ownActs", "(III)I"⟩, 3)) (i := 4) rfl
theorem qw_5 : (Jvm.Cond.selects "FreeShelf$Machine" ({ cls := "FreeShelf$Machine", name := "ownError", desc := "(III)I" } : Jvm.MethodName) ({ cls := "FreeShelf$Machine", name := "ownError", desc := "(III)I" } : Jvm.MethodName)) ∈ zGW := zgs (q := (⟨"FreeShelf$Machine", "ownError", "(III)I"⟩, 3)) (i := 5) rfl
theorem qw_6 : (Jvm.Cond.selects "FreeShelf$Machine" ({ cls := "FreeShelf$Machine", name := "ownAct", desc := "(II)V" } : Jvm.MethodName) ({ cls := "FreeShelf$Machine", name := "ownAct", desc := "(II)V" } : Jvm.MethodName)) ∈ zGW := zgs (q := (⟨"FreeShelf$Machine", "ownAct", "(II)V"⟩, 3)) (i := 6) rfl
theorem qw_7 : (Jvm.Cond.selects "FreeShelf$Machine" ({ cls := "FreeShelf$Machine", name := "letComeUntil", desc := "(II)V" } : Jvm.MethodName) ({ cls := "FreeShelf$Machine", name := "letComeUntil", desc := "(II)V" } : Jvm.MethodName)) ∈ zGW := zgs (q := (⟨"FreeShelf$Machine", "letComeUntil", "(II)V"⟩, 3)) (i := 7) rfl
theorem qw_8 : (Jvm.Cond.selects "FreeShelf$Machine" ({ cls := "FreeShelf$Machine", name := "comeOldest", desc := "(I)V" } : Jvm.MethodName) ({ cls := "FreeShelf$Machine", name := "comeOldest", desc := "(I)V" } : Jvm.MethodName)) ∈ zGW := zgs (q := (⟨"FreeShelf$Machine", "comeOldest", "(I)V"⟩, 3)) (i := 8) rfl
theorem qw_9 : (Jvm.Cond.selects "FreeShelf$Machine" ({ cls := "FreeShelf$Machine", name := "store", desc := "(II)V" } : Jvm.MethodName) ({ cls := "FreeShelf$Machine", name := "store", desc := "(II)V" } : Jvm.MethodName)) ∈ zGW := zgs (q := (⟨"FreeShelf$Machine", "store", "(II)V"⟩, 3)) (i := 9) rfl
theorem qw_10 : (Jvm.Cond.selects "FreeShelf$Machine" ({ cls := "FreeShelf$Machine", name := "memoryError", desc := "(II)I" } : Jvm.MethodName) ({ cls := "FreeShelf$Machine", name := "memoryError", desc := "(II)I" } : Jvm.MethodName)) ∈ zGW := zgs (q := (⟨"FreeShelf$Machine", "memoryError", "(II)I"⟩, 3)) (i := 10) rfl
theorem qw_11 : (Jvm.Cond.selects "FreeShelf$Machine" ({ cls := "FreeShelf$Machine", name := "nodeError", desc := "(II)I" } : Jvm.MethodName) ({ cls := "FreeShelf$Machine", name := "nodeError", desc := "(II)I" } : Jvm.MethodName)) ∈ zGW := zgs (q := (⟨"FreeShelf$Machine", "nodeError", "(II)I"⟩, 3)) (i := 11) rfl
theorem qw_12 : (Jvm.Cond.selects "FreeShelf$Machine" ({ cls := "FreeShelf$Machine", name := "perform", desc := "(III)V" } : Jvm.MethodName) ({ cls := "FreeShelf$Machine", name := "perform", desc := "(III)V" } : Jvm.MethodName)) ∈ zGW := zgs (q := (⟨"FreeShelf$Machine", "perform", "(III)V"⟩, 3)) (i := 12) rfl
theorem qw_13 : (Jvm.Cond.selects "FreeShelf$Machine" ({ cls := "FreeShelf$Machine", name := "seen", desc := "(II)I" } : Jvm.MethodName) ({ cls := "FreeShelf$Machine", name := "seen", desc := "(II)I" } : Jvm.MethodName)) ∈ zGW := zgs (q := (⟨"FreeShelf$Machine", "seen", "(II)I"⟩, 3)) (i := 13) rfl
theorem qw_14 : (Jvm.Cond.selects "FreeShelf$Machine" ({ cls := "FreeShelf$Machine", name := "write", desc := "(III)V" } : Jvm.MethodName) ({ cls := "FreeShelf$Machine", name := "write", desc := "(III)V" } : Jvm.MethodName)) ∈ zGW := zgs (q := (⟨"FreeShelf$Machine", "write", "(III)V"⟩, 3)) (i := 14) rfl
theorem qw_15 : (Jvm.Cond.selects "FreeShelf$Machine" ({ cls := "FreeShelf$Machine", name := "swap", desc := "(IIII)V" } : Jvm.MethodName) ({ cls := "FreeShelf$Machine", name := "swap", desc := "(IIII)V" } : Jvm.MethodName)) ∈ zGW := zgs (q := (⟨"FreeShelf$Machine", "swap", "(IIII)V"⟩, 3)) (i := 15) rfl
theorem qw_16 : (Jvm.Cond.selects "FreeShelf$Machine" ({ cls := "FreeShelf$Machine", name := "takeNode", desc := "()I" } : Jvm.MethodName) ({ cls := "FreeShelf$Machine", name := "takeNode", desc := "()I" } : Jvm.MethodName)) ∈ zGW := zgs (q := (⟨"FreeShelf$Machine", "takeNode", "()I"⟩, 3)) (i := 16) rfl
theorem qw_17 : (Jvm.Cond.selects "FreeShelf$Machine" ({ cls := "FreeShelf$Machine", name := "release", desc := "(I)V" } : Jvm.MethodName) ({ cls := "FreeShelf$Machine", name := "release", desc := "(I)V" } : Jvm.MethodName)) ∈ zGW := zgs (q := (⟨"FreeShelf$Machine", "release", "(I)V"⟩, 3)) (i := 17) rfl
theorem qw_18 : (Jvm.Cond.selects "FreeShelf$Machine" ({ cls := "FreeShelf$Machine", name := "endCall", desc := "(III)V" } : Jvm.MethodName) ({ cls := "FreeShelf$Machine", name := "endCall", desc := "(III)V" } : Jvm.MethodName)) ∈ zGW := zgs (q := (⟨"FreeShelf$Machine", "endCall", "(III)V"⟩, 3)) (i := 18) rfl
theorem qw_19 : (Jvm.Cond.selects "FreeShelf$Machine" ({ cls := "FreeShelf$Machine", name := "noteMoment", desc := "(III)V" } : Jvm.MethodName) ({ cls := "FreeShelf$Machine", name := "noteMoment", desc := "(III)V" } : Jvm.MethodName)) ∈ zGW := zgs (q := (⟨"FreeShelf$Machine", "noteMoment", "(III)V"⟩, 3)) (i := 19) rfl
theorem qw_20 : (Jvm.Cond.selects "FreeShelf$Machine" ({ cls := "FreeShelf$Machine", name := "settle", desc := "(I)V" } : Jvm.MethodName) ({ cls := "FreeShelf$Machine", name := "settle", desc := "(I)V" } : Jvm.MethodName)) ∈ zGW := zgs (q := (⟨"FreeShelf$Machine", "settle", "(I)V"⟩, 3)) (i := 20) rfl
theorem qw_21 : (Jvm.Cond.selects "FreeShelf$Machine" ({ cls := "FreeShelf$Machine", name := "freeUnguarded", desc := "()V" } : Jvm.MethodName) ({ cls := "FreeShelf$Machine", name := "freeUnguarded", desc := "()V" } : Jvm.MethodName)) ∈ zGW := zgs (q := (⟨"FreeShelf$Machine", "freeUnguarded", "()V"⟩, 3)) (i := 21) rfl
theorem qw_22 : (Jvm.Cond.selects "FreeShelf$Machine" ({ cls := "FreeShelf$Machine", name := "isGuarded", desc := "(I)Z" } : Jvm.MethodName) ({ cls := "FreeShelf$Machine", name := "isGuarded", desc := "(I)Z" } : Jvm.MethodName)) ∈ zGW := zgs (q := (⟨"FreeShelf$Machine", "isGuarded", "(I)Z"⟩, 3)) (i := 22) rfl
theorem qw_23 : (Jvm.Cond.selects "FreeShelf$Machine" ({ cls := "FreeShelf$Machine", name := "turnEpoch", desc := "()V" } : Jvm.MethodName) ({ cls := "FreeShelf$Machine", name := "turnEpoch", desc := "()V" } : Jvm.MethodName)) ∈ zGW := zgs (q := (⟨"FreeShelf$Machine", "turnEpoch", "()V"⟩, 3)) (i := 23) rfl
theorem qw_24 : (Jvm.Cond.selects "FreeShelf$Machine" ({ cls := "FreeShelf$Machine", name := "areAllInPresent", desc := "()Z" } : Jvm.MethodName) ({ cls := "FreeShelf$Machine", name := "areAllInPresent", desc := "()Z" } : Jvm.MethodName)) ∈ zGW := zgs (q := (⟨"FreeShelf$Machine", "areAllInPresent", "()Z"⟩, 3)) (i := 24) rfl
theorem qw_25 : (Jvm.Cond.selects "FreeShelf" ({ cls := "FreeShelf", name := "choose", desc := "(I)V" } : Jvm.MethodName) ({ cls := "FreeShelf", name := "choose", desc := "(I)V" } : Jvm.MethodName)) ∈ zGW := zgs (q := (⟨"FreeShelf", "choose", "(I)V"⟩, 8)) (i := 25) rfl
theorem qw_26 : (Jvm.Cond.selects "FreeShelf" ({ cls := "FreeShelf", name := "choiceInTurn", desc := "()I" } : Jvm.MethodName) ({ cls := "FreeShelf", name := "choiceInTurn", desc := "()I" } : Jvm.MethodName)) ∈ zGW := zgs (q := (⟨"FreeShelf", "choiceInTurn", "()I"⟩, 8)) (i := 26) rfl
theorem qw_27 : (Jvm.Cond.selects "FreeShelf" ({ cls := "FreeShelf", name := "toldOfThread", desc := "(II)I" } : Jvm.MethodName) ({ cls := "FreeShelf", name := "toldOfThread", desc := "(II)I" } : Jvm.MethodName)) ∈ zGW := zgs (q := (⟨"FreeShelf", "toldOfThread", "(II)I"⟩, 8)) (i := 27) rfl
theorem qw_28 : (Jvm.Cond.selects "FreeShelf$Judge" ({ cls := "FreeShelf$Judge", name := "fillFirstShelf", desc := "(LFreeShelf$Program;)V" } : Jvm.MethodName) ({ cls := "FreeShelf$Judge", name := "fillFirstShelf", desc := "(LFreeShelf$Program;)V" } : Jvm.MethodName)) ∈ zGW := zgs (q := (⟨"FreeShelf$Judge", "fillFirstShelf", "(LFreeShelf$Program;)V"⟩, 1)) (i := 28) rfl
theorem qw_29 : (Jvm.Cond.selects "FreeShelf$Exploration" ({ cls := "FreeShelf$Exploration", name := "forget", desc := "()V" } : Jvm.MethodName) ({ cls := "FreeShelf$Exploration", name := "forget", desc := "()V" } : Jvm.MethodName)) ∈ zGW := zgs (q := (⟨"FreeShelf$Exploration", "forget", "()V"⟩, 16)) (i := 29) rfl
theorem qw_30 : (Jvm.Cond.selects "FreeShelf$Exploration" ({ cls := "FreeShelf$Exploration", name := "keep", desc := "(II)I" } : Jvm.MethodName) ({ cls := "FreeShelf$Exploration", name := "keep", desc := "(II)I" } : Jvm.MethodName)) ∈ zGW := zgs (q := (⟨"FreeShelf$Exploration", "keep", "(II)I"⟩, 16)) (i := 30) rfl
theorem qw_31 : (Jvm.Cond.selects "FreeShelf$Exploration" ({ cls := "FreeShelf$Exploration", name := "findPlace", desc := "()I" } : Jvm.MethodName) ({ cls := "FreeShelf$Exploration", name := "findPlace", desc := "()I" } : Jvm.MethodName)) ∈ zGW := zgs (q := (⟨"FreeShelf$Exploration", "findPlace", "()I"⟩, 16)) (i := 31) rfl
theorem qw_32 : (Jvm.Cond.selects "FreeShelf$Exploration" ({ cls := "FreeShelf$Exploration", name := "isSame", desc := "(I)Z" } : Jvm.MethodName) ({ cls := "FreeShelf$Exploration", name := "isSame", desc := "(I)Z" } : Jvm.MethodName)) ∈ zGW := zgs (q := (⟨"FreeShelf$Exploration", "isSame", "(I)Z"⟩, 16)) (i := 32) rfl
theorem qw_33 : (Jvm.Cond.selects "FreeShelf$Exploration" ({ cls := "FreeShelf$Exploration", name := "load", desc := "(I)V" } : Jvm.MethodName) ({ cls := "FreeShelf$Exploration", name := "load", desc := "(I)V" } : Jvm.MethodName)) ∈ zGW := zgs (q := (⟨"FreeShelf$Exploration", "load", "(I)V"⟩, 16)) (i := 33) rfl
theorem qw_34 : (Jvm.Cond.selects "FreeShelf$Exploration" ({ cls := "FreeShelf$Exploration", name := "describe", desc := "(ILFreeShelf$Judge;)V" } : Jvm.MethodName) ({ cls := "FreeShelf$Exploration", name := "describe", desc := "(ILFreeShelf$Judge;)V" } : Jvm.MethodName)) ∈ zGW := zgs (q := (⟨"FreeShelf$Exploration", "describe", "(ILFreeShelf$Judge;)V"⟩, 16)) (i := 34) rfl
theorem qw_35 : (Jvm.Cond.selects "FreeShelf$Exploration" ({ cls := "FreeShelf$Exploration", name := "countResults", desc := "()I" } : Jvm.MethodName) ({ cls := "FreeShelf$Exploration", name := "countResults", desc := "()I" } : Jvm.MethodName)) ∈ zGW := zgs (q := (⟨"FreeShelf$Exploration", "countResults", "()I"⟩, 16)) (i := 35) rfl
theorem qw_36 : (Jvm.Cond.selects "FreeShelf$Exploration" ({ cls := "FreeShelf$Exploration", name := "isNewResult", desc := "(I)Z" } : Jvm.MethodName) ({ cls := "FreeShelf$Exploration", name := "isNewResult", desc := "(I)Z" } : Jvm.MethodName)) ∈ zGW := zgs (q := (⟨"FreeShelf$Exploration", "isNewResult", "(I)Z"⟩, 16)) (i := 36) rfl
theorem qw_37 : (Jvm.Cond.selects "FreeShelf$Exploration" ({ cls := "FreeShelf$Exploration", name := "hasSameAnswers", desc := "(II)Z" } : Jvm.MethodName) ({ cls := "FreeShelf$Exploration", name := "hasSameAnswers", desc := "(II)Z" } : Jvm.MethodName)) ∈ zGW := zgs (q := (⟨"FreeShelf$Exploration", "hasSameAnswers", "(II)Z"⟩, 16)) (i := 37) rfl
theorem qw_38 : (Jvm.Cond.selects "FreeShelf$Exploration" ({ cls := "FreeShelf$Exploration", name := "countTrait", desc := "(I)I" } : Jvm.MethodName) ({ cls := "FreeShelf$Exploration", name := "countTrait", desc := "(I)I" } : Jvm.MethodName)) ∈ zGW := zgs (q := (⟨"FreeShelf$Exploration", "countTrait", "(I)I"⟩, 16)) (i := 38) rfl
theorem qw_39 : (Jvm.Cond.selects "FreeShelf$Exploration" ({ cls := "FreeShelf$Exploration", name := "countPairs", desc := "()I" } : Jvm.MethodName) ({ cls := "FreeShelf$Exploration", name := "countPairs", desc := "()I" } : Jvm.MethodName)) ∈ zGW := zgs (q := (⟨"FreeShelf$Exploration", "countPairs", "()I"⟩, 16)) (i := 39) rfl
theorem qw_40 : (Jvm.Cond.selects "FreeShelf$Exploration" ({ cls := "FreeShelf$Exploration", name := "isWithinCall", desc := "(II)Z" } : Jvm.MethodName) ({ cls := "FreeShelf$Exploration", name := "isWithinCall", desc := "(II)Z" } : Jvm.MethodName)) ∈ zGW := zgs (q := (⟨"FreeShelf$Exploration", "isWithinCall", "(II)Z"⟩, 16)) (i := 40) rfl
theorem qw_41 : (Jvm.Cond.selects "FreeShelf$Exploration" ({ cls := "FreeShelf$Exploration", name := "withTrait", desc := "(II)I" } : Jvm.MethodName) ({ cls := "FreeShelf$Exploration", name := "withTrait", desc := "(II)I" } : Jvm.MethodName)) ∈ zGW := zgs (q := (⟨"FreeShelf$Exploration", "withTrait", "(II)I"⟩, 16)) (i := 41) rfl
theorem qw_42 : (Jvm.Cond.selects "FreeShelf$Exploration" ({ cls := "FreeShelf$Exploration", name := "stateInCycle", desc := "()I" } : Jvm.MethodName) ({ cls := "FreeShelf$Exploration", name := "stateInCycle", desc := "()I" } : Jvm.MethodName)) ∈ zGW := zgs (q := (⟨"FreeShelf$Exploration", "stateInCycle", "()I"⟩, 16)) (i := 42) rfl
theorem qw_43 : (Jvm.Cond.selects "FreeShelf$Cycles" ({ cls := "FreeShelf$Cycles", name := "discover", desc := "(I)V" } : Jvm.MethodName) ({ cls := "FreeShelf$Cycles", name := "discover", desc := "(I)V" } : Jvm.MethodName)) ∈ zGW := zgs (q := (⟨"FreeShelf$Cycles", "discover", "(I)V"⟩, 10)) (i := 43) rfl
theorem qw_44 : (Jvm.Cond.selects "FreeShelf$Cycles" ({ cls := "FreeShelf$Cycles", name := "tryNext", desc := "(II)V" } : Jvm.MethodName) ({ cls := "FreeShelf$Cycles", name := "tryNext", desc := "(II)V" } : Jvm.MethodName)) ∈ zGW := zgs (q := (⟨"FreeShelf$Cycles", "tryNext", "(II)V"⟩, 10)) (i := 44) rfl
theorem qw_45 : (Jvm.Cond.selects "FreeShelf$Cycles" ({ cls := "FreeShelf$Cycles", name := "note", desc := "(I)V" } : Jvm.MethodName) ({ cls := "FreeShelf$Cycles", name := "note", desc := "(I)V" } : Jvm.MethodName)) ∈ zGW := zgs (q := (⟨"FreeShelf$Cycles", "note", "(I)V"⟩, 10)) (i := 45) rfl
theorem qw_46 : (Jvm.Cond.selects "FreeShelf$Cycles" ({ cls := "FreeShelf$Cycles", name := "leave", desc := "(I)V" } : Jvm.MethodName) ({ cls := "FreeShelf$Cycles", name := "leave", desc := "(I)V" } : Jvm.MethodName)) ∈ zGW := zgs (q := (⟨"FreeShelf$Cycles", "leave", "(I)V"⟩, 10)) (i := 46) rfl
theorem qw_47 : (Jvm.Cond.selects "FreeShelf$Cycles" ({ cls := "FreeShelf$Cycles", name := "close", desc := "(I)V" } : Jvm.MethodName) ({ cls := "FreeShelf$Cycles", name := "close", desc := "(I)V" } : Jvm.MethodName)) ∈ zGW := zgs (q := (⟨"FreeShelf$Cycles", "close", "(I)V"⟩, 10)) (i := 47) rfl
theorem qw_48 : (Jvm.Cond.selects "FreeShelf$Exploration" ({ cls := "FreeShelf$Exploration", name := "withMostWaiting", desc := "()I" } : Jvm.MethodName) ({ cls := "FreeShelf$Exploration", name := "withMostWaiting", desc := "()I" } : Jvm.MethodName)) ∈ zGW := zgs (q := (⟨"FreeShelf$Exploration", "withMostWaiting", "()I"⟩, 16)) (i := 48) rfl
theorem qw_49 : (Jvm.Cond.selects "FreeShelfModel" ({ cls := "FreeShelfModel", name := "hasAct", desc := "(II)Z" } : Jvm.MethodName) ({ cls := "FreeShelfModel", name := "hasAct", desc := "(II)Z" } : Jvm.MethodName)) ∈ zGW := zgs (q := (⟨"FreeShelfModel", "hasAct", "(II)Z"⟩, 32)) (i := 49) rfl
theorem qw_50 : (Jvm.Cond.selects "FreeShelfModel" ({ cls := "FreeShelfModel", name := "use", desc := "(I)V" } : Jvm.MethodName) ({ cls := "FreeShelfModel", name := "use", desc := "(I)V" } : Jvm.MethodName)) ∈ zGW := zgs (q := (⟨"FreeShelfModel", "use", "(I)V"⟩, 32)) (i := 50) rfl
theorem qw_51 : (Jvm.Cond.selects "FreeShelfModel" ({ cls := "FreeShelfModel", name := "callMany", desc := "()I" } : Jvm.MethodName) ({ cls := "FreeShelfModel", name := "callMany", desc := "()I" } : Jvm.MethodName)) ∈ zGW := zgs (q := (⟨"FreeShelfModel", "callMany", "()I"⟩, 32)) (i := 51) rfl
theorem qw_52 : (Jvm.Cond.selects "FreeShelfModel" ({ cls := "FreeShelfModel", name := "prepared", desc := "()I" } : Jvm.MethodName) ({ cls := "FreeShelfModel", name := "prepared", desc := "()I" } : Jvm.MethodName)) ∈ zGW := zgs (q := (⟨"FreeShelfModel", "prepared", "()I"⟩, 32)) (i := 52) rfl
theorem qw_53 : (Jvm.Cond.selects "FreeShelfModel" ({ cls := "FreeShelfModel", name := "steps", desc := "(I)V" } : Jvm.MethodName) ({ cls := "FreeShelfModel", name := "steps", desc := "(I)V" } : Jvm.MethodName)) ∈ zGW := zgs (q := (⟨"FreeShelfModel", "steps", "(I)V"⟩, 32)) (i := 53) rfl
theorem qw_54 : (Jvm.Cond.selects "FreeShelfModel" ({ cls := "FreeShelfModel", name := "begins", desc := "(I)V" } : Jvm.MethodName) ({ cls := "FreeShelfModel", name := "begins", desc := "(I)V" } : Jvm.MethodName)) ∈ zGW := zgs (q := (⟨"FreeShelfModel", "begins", "(I)V"⟩, 32)) (i := 54) rfl
theorem qw_55 : (Jvm.Cond.selects "FreeShelfModel" ({ cls := "FreeShelfModel", name := "setLocal", desc := "(III)V" } : Jvm.MethodName) ({ cls := "FreeShelfModel", name := "setLocal", desc := "(III)V" } : Jvm.MethodName)) ∈ zGW := zgs (q := (⟨"FreeShelfModel", "setLocal", "(III)V"⟩, 32)) (i := 55) rfl
theorem qw_56 : (Jvm.Cond.selects "FreeShelfModel" ({ cls := "FreeShelfModel", name := "routineOf", desc := "(I)I" } : Jvm.MethodName) ({ cls := "FreeShelfModel", name := "routineOf", desc := "(I)I" } : Jvm.MethodName)) ∈ zGW := zgs (q := (⟨"FreeShelfModel", "routineOf", "(I)I"⟩, 32)) (i := 56) rfl
theorem qw_57 : (Jvm.Cond.selects "FreeShelfModel" ({ cls := "FreeShelfModel", name := "finds", desc := "(II)V" } : Jvm.MethodName) ({ cls := "FreeShelfModel", name := "finds", desc := "(II)V" } : Jvm.MethodName)) ∈ zGW := zgs (q := (⟨"FreeShelfModel", "finds", "(II)V"⟩, 32)) (i := 57) rfl
theorem qw_58 : (Jvm.Cond.selects "FreeShelfModel" ({ cls := "FreeShelfModel", name := "owns", desc := "(I)V" } : Jvm.MethodName) ({ cls := "FreeShelfModel", name := "owns", desc := "(I)V" } : Jvm.MethodName)) ∈ zGW := zgs (q := (⟨"FreeShelfModel", "owns", "(I)V"⟩, 32)) (i := 58) rfl
theorem qw_59 : (Jvm.Cond.selects "FreeShelfModel" ({ cls := "FreeShelfModel", name := "opAt", desc := "(I)I" } : Jvm.MethodName) ({ cls := "FreeShelfModel", name := "opAt", desc := "(I)I" } : Jvm.MethodName)) ∈ zGW := zgs (q := (⟨"FreeShelfModel", "opAt", "(I)I"⟩, 32)) (i := 59) rfl
theorem qw_60 : (Jvm.Cond.selects "FreeShelfModel" ({ cls := "FreeShelfModel", name := "own", desc := "(I)V" } : Jvm.MethodName) ({ cls := "FreeShelfModel", name := "own", desc := "(I)V" } : Jvm.MethodName)) ∈ zGW := zgs (q := (⟨"FreeShelfModel", "own", "(I)V"⟩, 32)) (i := 60) rfl
theorem qw_61 : (Jvm.Cond.selects "FreeShelfModel" ({ cls := "FreeShelfModel", name := "argumentOf", desc := "(II)I" } : Jvm.MethodName) ({ cls := "FreeShelfModel", name := "argumentOf", desc := "(II)I" } : Jvm.MethodName)) ∈ zGW := zgs (q := (⟨"FreeShelfModel", "argumentOf", "(II)I"⟩, 32)) (i := 61) rfl
theorem qw_62 : (Jvm.Cond.selects "FreeShelfModel" ({ cls := "FreeShelfModel", name := "localOf", desc := "(II)I" } : Jvm.MethodName) ({ cls := "FreeShelfModel", name := "localOf", desc := "(II)I" } : Jvm.MethodName)) ∈ zGW := zgs (q := (⟨"FreeShelfModel", "localOf", "(II)I"⟩, 32)) (i := 62) rfl
theorem qw_63 : (Jvm.Cond.selects "FreeShelfModel" ({ cls := "FreeShelfModel", name := "memory", desc := "(I)V" } : Jvm.MethodName) ({ cls := "FreeShelfModel", name := "memory", desc := "(I)V" } : Jvm.MethodName)) ∈ zGW := zgs (q := (⟨"FreeShelfModel", "memory", "(I)V"⟩, 32)) (i := 63) rfl
theorem qw_64 : (Jvm.Cond.selects "FreeShelfModel" ({ cls := "FreeShelfModel", name := "meets", desc := "(IIII)I" } : Jvm.MethodName) ({ cls := "FreeShelfModel", name := "meets", desc := "(IIII)I" } : Jvm.MethodName)) ∈ zGW := zgs (q := (⟨"FreeShelfModel", "meets", "(IIII)I"⟩, 32)) (i := 64) rfl
theorem qw_65 : (Jvm.Cond.selects "FreeShelfModel" ({ cls := "FreeShelfModel", name := "flush", desc := "(I)V" } : Jvm.MethodName) ({ cls := "FreeShelfModel", name := "flush", desc := "(I)V" } : Jvm.MethodName)) ∈ zGW := zgs (q := (⟨"FreeShelfModel", "flush", "(I)V"⟩, 32)) (i := 65) rfl
theorem qw_66 : (Jvm.Cond.selects "FreeShelfModel" ({ cls := "FreeShelfModel", name := "comes", desc := "(I)V" } : Jvm.MethodName) ({ cls := "FreeShelfModel", name := "comes", desc := "(I)V" } : Jvm.MethodName)) ∈ zGW := zgs (q := (⟨"FreeShelfModel", "comes", "(I)V"⟩, 32)) (i := 66) rfl
theorem qw_67 : (Jvm.Cond.selects "FreeShelfModel" ({ cls := "FreeShelfModel", name := "becomes", desc := "(II)V" } : Jvm.MethodName) ({ cls := "FreeShelfModel", name := "becomes", desc := "(II)V" } : Jvm.MethodName)) ∈ zGW := zgs (q := (⟨"FreeShelfModel", "becomes", "(II)V"⟩, 32)) (i := 67) rfl
theorem qw_68 : (Jvm.Cond.selects "FreeShelfModel" ({ cls := "FreeShelfModel", name := "notNode", desc := "(II)I" } : Jvm.MethodName) ({ cls := "FreeShelfModel", name := "notNode", desc := "(II)I" } : Jvm.MethodName)) ∈ zGW := zgs (q := (⟨"FreeShelfModel", "notNode", "(II)I"⟩, 32)) (i := 68) rfl
theorem qw_69 : (Jvm.Cond.selects "FreeShelfModel" ({ cls := "FreeShelfModel", name := "isFree", desc := "(II)Z" } : Jvm.MethodName) ({ cls := "FreeShelfModel", name := "isFree", desc := "(II)Z" } : Jvm.MethodName)) ∈ zGW := zgs (q := (⟨"FreeShelfModel", "isFree", "(II)Z"⟩, 32)) (i := 69) rfl
theorem qw_70 : (Jvm.Cond.selects "FreeShelfModel" ({ cls := "FreeShelfModel", name := "sees", desc := "(II)I" } : Jvm.MethodName) ({ cls := "FreeShelfModel", name := "sees", desc := "(II)I" } : Jvm.MethodName)) ∈ zGW := zgs (q := (⟨"FreeShelfModel", "sees", "(II)I"⟩, 32)) (i := 70) rfl
theorem qw_71 : (Jvm.Cond.selects "FreeShelfModel" ({ cls := "FreeShelfModel", name := "happens", desc := "(I)V" } : Jvm.MethodName) ({ cls := "FreeShelfModel", name := "happens", desc := "(I)V" } : Jvm.MethodName)) ∈ zGW := zgs (q := (⟨"FreeShelfModel", "happens", "(I)V"⟩, 32)) (i := 71) rfl
theorem qw_72 : (Jvm.Cond.selects "FreeShelfModel" ({ cls := "FreeShelfModel", name := "field", desc := "(III)I" } : Jvm.MethodName) ({ cls := "FreeShelfModel", name := "field", desc := "(III)I" } : Jvm.MethodName)) ∈ zGW := zgs (q := (⟨"FreeShelfModel", "field", "(III)I"⟩, 32)) (i := 72) rfl
theorem qw_73 : (Jvm.Cond.selects "FreeShelfModel" ({ cls := "FreeShelfModel", name := "writes", desc := "(III)V" } : Jvm.MethodName) ({ cls := "FreeShelfModel", name := "writes", desc := "(III)V" } : Jvm.MethodName)) ∈ zGW := zgs (q := (⟨"FreeShelfModel", "writes", "(III)V"⟩, 32)) (i := 73) rfl
theorem qw_74 : (Jvm.Cond.selects "FreeShelfModel" ({ cls := "FreeShelfModel", name := "isLate", desc := "()Z" } : Jvm.MethodName) ({ cls := "FreeShelfModel", name := "isLate", desc := "()Z" } : Jvm.MethodName)) ∈ zGW := zgs (q := (⟨"FreeShelfModel", "isLate", "()Z"⟩, 32)) (i := 74) rfl
theorem qw_75 : (Jvm.Cond.selects "FreeShelfModel" ({ cls := "FreeShelfModel", name := "swaps", desc := "(IIII)V" } : Jvm.MethodName) ({ cls := "FreeShelfModel", name := "swaps", desc := "(IIII)V" } : Jvm.MethodName)) ∈ zGW := zgs (q := (⟨"FreeShelfModel", "swaps", "(IIII)V"⟩, 32)) (i := 75) rfl
theorem qw_76 : (Jvm.Cond.selects "FreeShelfModel" ({ cls := "FreeShelfModel", name := "adds", desc := "(III)V" } : Jvm.MethodName) ({ cls := "FreeShelfModel", name := "adds", desc := "(III)V" } : Jvm.MethodName)) ∈ zGW := zgs (q := (⟨"FreeShelfModel", "adds", "(III)V"⟩, 32)) (i := 76) rfl
theorem qw_77 : (Jvm.Cond.selects "FreeShelfModel" ({ cls := "FreeShelfModel", name := "other", desc := "(IIII)V" } : Jvm.MethodName) ({ cls := "FreeShelfModel", name := "other", desc := "(IIII)V" } : Jvm.MethodName)) ∈ zGW := zgs (q := (⟨"FreeShelfModel", "other", "(IIII)V"⟩, 32)) (i := 77) rfl
theorem qw_78 : (Jvm.Cond.selects "FreeShelfModel" ({ cls := "FreeShelfModel", name := "looks", desc := "()V" } : Jvm.MethodName) ({ cls := "FreeShelfModel", name := "looks", desc := "()V" } : Jvm.MethodName)) ∈ zGW := zgs (q := (⟨"FreeShelfModel", "looks", "()V"⟩, 32)) (i := 78) rfl
theorem qw_79 : (Jvm.Cond.selects "FreeShelfModel" ({ cls := "FreeShelfModel", name := "isGuarded", desc := "(I)Z" } : Jvm.MethodName) ({ cls := "FreeShelfModel", name := "isGuarded", desc := "(I)Z" } : Jvm.MethodName)) ∈ zGW := zgs (q := (⟨"FreeShelfModel", "isGuarded", "(I)Z"⟩, 32)) (i := 79) rfl
theorem qw_80 : (Jvm.Cond.selects "FreeShelfModel" ({ cls := "FreeShelfModel", name := "epochMoves", desc := "()V" } : Jvm.MethodName) ({ cls := "FreeShelfModel", name := "epochMoves", desc := "()V" } : Jvm.MethodName)) ∈ zGW := zgs (q := (⟨"FreeShelfModel", "epochMoves", "()V"⟩, 32)) (i := 80) rfl
theorem qw_81 : (Jvm.Cond.selects "FreeShelfModel" ({ cls := "FreeShelfModel", name := "returns", desc := "(II)V" } : Jvm.MethodName) ({ cls := "FreeShelfModel", name := "returns", desc := "(II)V" } : Jvm.MethodName)) ∈ zGW := zgs (q := (⟨"FreeShelfModel", "returns", "(II)V"⟩, 32)) (i := 81) rfl
theorem qw_82 : (Jvm.Cond.selects "FreeShelfModel" ({ cls := "FreeShelfModel", name := "keepProgram", desc := "(I)V" } : Jvm.MethodName) ({ cls := "FreeShelfModel", name := "keepProgram", desc := "(I)V" } : Jvm.MethodName)) ∈ zGW := zgs (q := (⟨"FreeShelfModel", "keepProgram", "(I)V"⟩, 32)) (i := 82) rfl
theorem qw_83 : (Jvm.Cond.selects "FreeShelfModel" ({ cls := "FreeShelfModel", name := "keepRun", desc := "()V" } : Jvm.MethodName) ({ cls := "FreeShelfModel", name := "keepRun", desc := "()V" } : Jvm.MethodName)) ∈ zGW := zgs (q := (⟨"FreeShelfModel", "keepRun", "()V"⟩, 32)) (i := 83) rfl
theorem qw_84 : (Jvm.Cond.selects "FreeShelfModel" ({ cls := "FreeShelfModel", name := "takeRun", desc := "()V" } : Jvm.MethodName) ({ cls := "FreeShelfModel", name := "takeRun", desc := "()V" } : Jvm.MethodName)) ∈ zGW := zgs (q := (⟨"FreeShelfModel", "takeRun", "()V"⟩, 32)) (i := 84) rfl
theorem qw_85 : (Jvm.Cond.selects "FreeShelfModel" ({ cls := "FreeShelfModel", name := "isThere", desc := "(I)Z" } : Jvm.MethodName) ({ cls := "FreeShelfModel", name := "isThere", desc := "(I)Z" } : Jvm.MethodName)) ∈ zGW := zgs (q := (⟨"FreeShelfModel", "isThere", "(I)Z"⟩, 32)) (i := 85) rfl
theorem qw_86 : (Jvm.Cond.selects "FreeShelfModel" ({ cls := "FreeShelfModel", name := "chooses", desc := "(I)V" } : Jvm.MethodName) ({ cls := "FreeShelfModel", name := "chooses", desc := "(I)V" } : Jvm.MethodName)) ∈ zGW := zgs (q := (⟨"FreeShelfModel", "chooses", "(I)V"⟩, 32)) (i := 86) rfl
theorem qw_87 : (Jvm.Cond.selects "FreeShelfModel" ({ cls := "FreeShelfModel", name := "isEnd", desc := "()Z" } : Jvm.MethodName) ({ cls := "FreeShelfModel", name := "isEnd", desc := "()Z" } : Jvm.MethodName)) ∈ zGW := zgs (q := (⟨"FreeShelfModel", "isEnd", "()Z"⟩, 32)) (i := 87) rfl
theorem qw_88 : (Jvm.Cond.selects "FreeShelfModel" ({ cls := "FreeShelfModel", name := "agreesNow", desc := "()Z" } : Jvm.MethodName) ({ cls := "FreeShelfModel", name := "agreesNow", desc := "()Z" } : Jvm.MethodName)) ∈ zGW := zgs (q := (⟨"FreeShelfModel", "agreesNow", "()Z"⟩, 32)) (i := 88) rfl
theorem qw_89 : (Jvm.Cond.selects "FreeShelfModel" ({ cls := "FreeShelfModel", name := "hasFinding", desc := "()Z" } : Jvm.MethodName) ({ cls := "FreeShelfModel", name := "hasFinding", desc := "()Z" } : Jvm.MethodName)) ∈ zGW := zgs (q := (⟨"FreeShelfModel", "hasFinding", "()Z"⟩, 32)) (i := 89) rfl
theorem qw_90 : (Jvm.Cond.selects "FreeShelfModel" ({ cls := "FreeShelfModel", name := "mayStand", desc := "(III)Z" } : Jvm.MethodName) ({ cls := "FreeShelfModel", name := "mayStand", desc := "(III)Z" } : Jvm.MethodName)) ∈ zGW := zgs (q := (⟨"FreeShelfModel", "mayStand", "(III)Z"⟩, 32)) (i := 90) rfl
theorem qw_91 : (Jvm.Cond.selects "FreeShelfModel" ({ cls := "FreeShelfModel", name := "isCall", desc := "(I)Z" } : Jvm.MethodName) ({ cls := "FreeShelfModel", name := "isCall", desc := "(I)Z" } : Jvm.MethodName)) ∈ zGW := zgs (q := (⟨"FreeShelfModel", "isCall", "(I)Z"⟩, 32)) (i := 91) rfl
theorem qw_92 : (Jvm.Cond.selects "FreeShelfModel" ({ cls := "FreeShelfModel", name := "fits", desc := "(I)Z" } : Jvm.MethodName) ({ cls := "FreeShelfModel", name := "fits", desc := "(I)Z" } : Jvm.MethodName)) ∈ zGW := zgs (q := (⟨"FreeShelfModel", "fits", "(I)Z"⟩, 32)) (i := 92) rfl
theorem qw_93 : (Jvm.Cond.selects "FreeShelfModel" ({ cls := "FreeShelfModel", name := "says", desc := "(IIIZ)Z" } : Jvm.MethodName) ({ cls := "FreeShelfModel", name := "says", desc := "(IIIZ)Z" } : Jvm.MethodName)) ∈ zGW := zgs (q := (⟨"FreeShelfModel", "says", "(IIIZ)Z"⟩, 32)) (i := 93) rfl
theorem qw_94 : (Jvm.Cond.selects "FreeShelfModel" ({ cls := "FreeShelfModel", name := "takes", desc := "(I)I" } : Jvm.MethodName) ({ cls := "FreeShelfModel", name := "takes", desc := "(I)I" } : Jvm.MethodName)) ∈ zGW := zgs (q := (⟨"FreeShelfModel", "takes", "(I)I"⟩, 32)) (i := 94) rfl
theorem qw_95 : (Jvm.Cond.selects "FreeShelfModel" ({ cls := "FreeShelfModel", name := "keepsNow", desc := "()Z" } : Jvm.MethodName) ({ cls := "FreeShelfModel", name := "keepsNow", desc := "()Z" } : Jvm.MethodName)) ∈ zGW := zgs (q := (⟨"FreeShelfModel", "keepsNow", "()Z"⟩, 32)) (i := 95) rfl
theorem qw_96 : (Jvm.Cond.selects "FreeShelfModel" ({ cls := "FreeShelfModel", name := "sumNow", desc := "()I" } : Jvm.MethodName) ({ cls := "FreeShelfModel", name := "sumNow", desc := "()I" } : Jvm.MethodName)) ∈ zGW := zgs (q := (⟨"FreeShelfModel", "sumNow", "()I"⟩, 32)) (i := 96) rfl
theorem qw_97 : (Jvm.Cond.selects "FreeShelfModel" ({ cls := "FreeShelfModel", name := "keep", desc := "(III)V" } : Jvm.MethodName) ({ cls := "FreeShelfModel", name := "keep", desc := "(III)V" } : Jvm.MethodName)) ∈ zGW := zgs (q := (⟨"FreeShelfModel", "keep", "(III)V"⟩, 32)) (i := 97) rfl
theorem qw_98 : (Jvm.Cond.selects "FreeShelfModel" ({ cls := "FreeShelfModel", name := "goesOn", desc := "(II)V" } : Jvm.MethodName) ({ cls := "FreeShelfModel", name := "goesOn", desc := "(II)V" } : Jvm.MethodName)) ∈ zGW := zgs (q := (⟨"FreeShelfModel", "goesOn", "(II)V"⟩, 32)) (i := 98) rfl
theorem qw_99 : (Jvm.Cond.selects "FreeShelfModel" ({ cls := "FreeShelfModel", name := "load", desc := "(I)V" } : Jvm.MethodName) ({ cls := "FreeShelfModel", name := "load", desc := "(I)V" } : Jvm.MethodName)) ∈ zGW := zgs (q := (⟨"FreeShelfModel", "load", "(I)V"⟩, 32)) (i := 99) rfl
theorem qw_100 : (Jvm.Cond.selects "FreeShelfModel" ({ cls := "FreeShelfModel", name := "found", desc := "(I)I" } : Jvm.MethodName) ({ cls := "FreeShelfModel", name := "found", desc := "(I)I" } : Jvm.MethodName)) ∈ zGW := zgs (q := (⟨"FreeShelfModel", "found", "(I)I"⟩, 32)) (i := 100) rfl
theorem qw_101 : (Jvm.Cond.selects "FreeShelfModel" ({ cls := "FreeShelfModel", name := "marked", desc := "(II)I" } : Jvm.MethodName) ({ cls := "FreeShelfModel", name := "marked", desc := "(II)I" } : Jvm.MethodName)) ∈ zGW := zgs (q := (⟨"FreeShelfModel", "marked", "(II)I"⟩, 32)) (i := 101) rfl
theorem qw_102 : (Jvm.Cond.selects "FreeShelfModel" ({ cls := "FreeShelfModel", name := "mostWaiting", desc := "()I" } : Jvm.MethodName) ({ cls := "FreeShelfModel", name := "mostWaiting", desc := "()I" } : Jvm.MethodName)) ∈ zGW := zgs (q := (⟨"FreeShelfModel", "mostWaiting", "()I"⟩, 32)) (i := 102) rfl
theorem qw_103 : (Jvm.Cond.selects "FreeShelfModel" ({ cls := "FreeShelfModel", name := "firstMarked", desc := "(II)I" } : Jvm.MethodName) ({ cls := "FreeShelfModel", name := "firstMarked", desc := "(II)I" } : Jvm.MethodName)) ∈ zGW := zgs (q := (⟨"FreeShelfModel", "firstMarked", "(II)I"⟩, 32)) (i := 103) rfl
theorem qw_104 : (Jvm.Cond.selects "FreeShelfModel" ({ cls := "FreeShelfModel", name := "firstNotAlone", desc := "()I" } : Jvm.MethodName) ({ cls := "FreeShelfModel", name := "firstNotAlone", desc := "()I" } : Jvm.MethodName)) ∈ zGW := zgs (q := (⟨"FreeShelfModel", "firstNotAlone", "()I"⟩, 32)) (i := 104) rfl
theorem qw_105 : (Jvm.Cond.selects "FreeShelfModel" ({ cls := "FreeShelfModel", name := "isAlone", desc := "(II)Z" } : Jvm.MethodName) ({ cls := "FreeShelfModel", name := "isAlone", desc := "(II)Z" } : Jvm.MethodName)) ∈ zGW := zgs (q := (⟨"FreeShelfModel", "isAlone", "(II)Z"⟩, 32)) (i := 105) rfl
theorem qw_106 : (Jvm.Cond.selects "FreeShelfModel" ({ cls := "FreeShelfModel", name := "firstInRing", desc := "()I" } : Jvm.MethodName) ({ cls := "FreeShelfModel", name := "firstInRing", desc := "()I" } : Jvm.MethodName)) ∈ zGW := zgs (q := (⟨"FreeShelfModel", "firstInRing", "()I"⟩, 32)) (i := 106) rfl
theorem qw_107 : (Jvm.Cond.selects "FreeShelfModel" ({ cls := "FreeShelfModel", name := "isInRing", desc := "(I)Z" } : Jvm.MethodName) ({ cls := "FreeShelfModel", name := "isInRing", desc := "(I)Z" } : Jvm.MethodName)) ∈ zGW := zgs (q := (⟨"FreeShelfModel", "isInRing", "(I)Z"⟩, 32)) (i := 107) rfl
theorem qw_108 : (Jvm.Cond.selects "FreeShelfModel" ({ cls := "FreeShelfModel", name := "endAt", desc := "(I)I" } : Jvm.MethodName) ({ cls := "FreeShelfModel", name := "endAt", desc := "(I)I" } : Jvm.MethodName)) ∈ zGW := zgs (q := (⟨"FreeShelfModel", "endAt", "(I)I"⟩, 32)) (i := 108) rfl
theorem qw_109 : (Jvm.Cond.selects "FreeShelfModel" ({ cls := "FreeShelfModel", name := "isState", desc := "(I)Z" } : Jvm.MethodName) ({ cls := "FreeShelfModel", name := "isState", desc := "(I)Z" } : Jvm.MethodName)) ∈ zGW := zgs (q := (⟨"FreeShelfModel", "isState", "(I)Z"⟩, 32)) (i := 109) rfl
theorem qw_110 : (Jvm.Cond.selects "FreeShelfModel" ({ cls := "FreeShelfModel", name := "lengthOf", desc := "(I)I" } : Jvm.MethodName) ({ cls := "FreeShelfModel", name := "lengthOf", desc := "(I)I" } : Jvm.MethodName)) ∈ zGW := zgs (q := (⟨"FreeShelfModel", "lengthOf", "(I)I"⟩, 32)) (i := 110) rfl
theorem qw_111 : (Jvm.Cond.selects "FreeShelfModel" ({ cls := "FreeShelfModel", name := "answerAlike", desc := "(II)Z" } : Jvm.MethodName) ({ cls := "FreeShelfModel", name := "answerAlike", desc := "(II)Z" } : Jvm.MethodName)) ∈ zGW := zgs (q := (⟨"FreeShelfModel", "answerAlike", "(II)Z"⟩, 32)) (i := 111) rfl
theorem qw_113 : (Jvm.Cond.initialized "FreeShelf") ∈ zGW := zgw1 (i := 1) rfl rfl
theorem qw_114 : (Jvm.Cond.initialized "FreeShelf$Program") ∈ zGW := zgw1 (i := 2) rfl rfl
theorem qw_115 : (Jvm.Cond.initialized "java/util/Arrays") ∈ zGW := zgw1 (i := 3) rfl rfl
theorem qw_116 : (Jvm.Cond.initialized "FreeShelf$Machine") ∈ zGW := zgw1 (i := 4) rfl rfl
theorem qw_117 : (Jvm.Cond.initialized "FreeShelf$Judge") ∈ zGW := zgw1 (i := 5) rfl rfl
theorem qw_118 : (Jvm.Cond.initialized "FreeShelfModel") ∈ zGW := zgw1 (i := 6) rfl rfl
theorem qw_119 : (Jvm.Cond.initialized "FreeShelf$Grammar") ∈ zGW := zgw1 (i := 7) rfl rfl
theorem qw_120 : (Jvm.Cond.initialized "java/lang/Math") ∈ zGW := zgw1 (i := 8) rfl rfl
theorem qw_121 : (Jvm.Cond.initialized "java/lang/System") ∈ zGW := zgw1 (i := 9) rfl rfl
theorem qw_122 : (Jvm.Cond.initialized "FreeShelf$Layout") ∈ zGW := zgw1 (i := 10) rfl rfl
theorem qw_123 : (Jvm.Cond.initialized "FreeShelf$Value") ∈ zGW := zgw1 (i := 11) rfl rfl
theorem qw_124 : (Jvm.Cond.initialized "FreeShelf$Exploration") ∈ zGW := zgw1 (i := 12) rfl rfl
theorem qw_125 : (Jvm.Cond.initialized "FreeShelf$Cycles") ∈ zGW := zgw1 (i := 13) rfl rfl
theorem qw_141 : (Jvm.Cond.static ({ cls := "java/util/Arrays", name := "fill", desc := "([II)V" } : Jvm.MethodName)) ∈ zGW := zgw1 (i := 29) rfl rfl
theorem qw_142 : (Jvm.Cond.code ({ cls := "java/util/Arrays", name := "fill", desc := "([II)V" } : Jvm.MethodName) prog_14_method_103_code (4 : Nat) (Option.none : Option Jvm.ClassFile.FieldType)) ∈ zGW := zgw1 (i := 30) rfl rfl
theorem qw_143 : (Jvm.Cond.fieldLink "FreeShelf$Program" (11 : Nat) "FreeShelf$Program" "acts" "[I") ∈ zGW := zgw1 (i := 31) rfl rfl
theorem qw_146 : (Jvm.Cond.fieldLink "FreeShelf$Program" (15 : Nat) "FreeShelf$Program" "lengths" "[I") ∈ zGW := zgw1 (i := 34) rfl rfl
theorem qw_149 : (Jvm.Cond.fieldLink "FreeShelf$Program" (18 : Nat) "FreeShelf$Program" "meanings" "[I") ∈ zGW := zgw1 (i := 37) rfl rfl
theorem qw_152 : (Jvm.Cond.fieldLink "FreeShelf$Program" (21 : Nat) "FreeShelf$Program" "counts" "[I") ∈ zGW := zgw1 (i := 40) rfl rfl
theorem qw_156 : (Jvm.Cond.fieldLink "FreeShelf$Program" (24 : Nat) "FreeShelf$Program" "routines" "[I") ∈ zGW := zgw1 (i := 44) rfl rfl
theorem qw_159 : (Jvm.Cond.fieldLink "FreeShelf$Program" (27 : Nat) "FreeShelf$Program" "arguments" "[I") ∈ zGW := zgw1 (i := 47) rfl rfl
theorem qw_162 : (Jvm.Cond.fieldLink "FreeShelf$Program" (30 : Nat) "FreeShelf$Program" "manner" "I") ∈ zGW := zgw1 (i := 50) rfl rfl
theorem qw_165 : (Jvm.Cond.fieldLink "FreeShelf$Program" (34 : Nat) "FreeShelf$Program" "late" "Z") ∈ zGW := zgw1 (i := 53) rfl rfl
theorem qw_168 : (Jvm.Cond.fieldLink "FreeShelf$Program" (38 : Nat) "FreeShelf$Program" "model" "I") ∈ zGW := zgw1 (i := 56) rfl rfl
theorem qw_200 : (Jvm.Cond.fieldLink "FreeShelf$Machine" (12 : Nat) "FreeShelf$Machine" "program" "LFreeShelf$Program;") ∈ zGW := zgw1 (i := 88) rfl rfl
theorem qw_204 : (Jvm.Cond.fieldLink "FreeShelf$Machine" (20 : Nat) "FreeShelf$Machine" "cells" "[I") ∈ zGW := zgw1 (i := 92) rfl rfl
theorem qw_208 : (Jvm.Cond.fieldLink "FreeShelf$Machine" (24 : Nat) "FreeShelf$Machine" "delayed" "Z") ∈ zGW := zgw1 (i := 96) rfl rfl
theorem qw_224 : (Jvm.Cond.fieldLink "FreeShelf$Judge" (13 : Nat) "FreeShelf$Judge" "shelves" "[[I") ∈ zGW := zgw1 (i := 112) rfl rfl
theorem qw_228 : (Jvm.Cond.fieldLink "FreeShelf" (12 : Nat) "FreeShelf" "plan" "LFreeShelf$Program;") ∈ zGW := zgw1 (i := 116) rfl rfl
theorem qw_229 : (Jvm.Cond.fieldLink "FreeShelf" (19 : Nat) "FreeShelf" "live" "LFreeShelf$Machine;") ∈ zGW := zgw1 (i := 117) rfl rfl
theorem qw_230 : (Jvm.Cond.fieldLink "FreeShelf" (26 : Nat) "FreeShelf" "judge" "LFreeShelf$Judge;") ∈ zGW := zgw1 (i := 118) rfl rfl
theorem qw_231 : (Jvm.Cond.fieldLink "FreeShelf" (30 : Nat) "FreeShelf" "search" "LFreeShelf$Exploration;") ∈ zGW := zgw1 (i := 119) rfl rfl
theorem qw_232 : (Jvm.Cond.fieldLink "FreeShelf" (34 : Nat) "FreeShelf" "running" "Z") ∈ zGW := zgw1 (i := 120) rfl rfl
theorem qw_233 : (Jvm.Cond.fieldLink "FreeShelf" (38 : Nat) "FreeShelf" "made" "I") ∈ zGW := zgw1 (i := 121) rfl rfl
theorem qw_234 : (Jvm.Cond.fieldLink "FreeShelf" (42 : Nat) "FreeShelf" "last" "I") ∈ zGW := zgw1 (i := 122) rfl rfl
theorem qw_235 : (Jvm.Cond.fieldLink "FreeShelf" (45 : Nat) "FreeShelf" "explorations" "I") ∈ zGW := zgw1 (i := 123) rfl rfl
theorem qw_257 : (Jvm.Cond.methodLink "FreeShelf" (48 : Nat) ({ cls := "FreeShelf", name := "isRoutine", desc := "(I)Z" } : Jvm.MethodName)) ∈ zGW := zgw1 (i := 145) rfl rfl
theorem qw_258 : (Jvm.Cond.static ({ cls := "FreeShelf", name := "isRoutine", desc := "(I)Z" } : Jvm.MethodName)) ∈ zGW := zgw1 (i := 146) rfl rfl
theorem qw_259 : (Jvm.Cond.code ({ cls := "FreeShelf", name := "isRoutine", desc := "(I)Z" } : Jvm.MethodName) prog_1_method_31_code (1 : Nat) (Option.some Jvm.ClassFile.FieldType.boolean)) ∈ zGW := zgw1 (i := 147) rfl rfl
theorem qw_260 : (Jvm.Cond.methodLink "FreeShelf" (52 : Nat) ({ cls := "FreeShelf$Grammar", name := "allows", desc := "(IIII)Z" } : Jvm.MethodName)) ∈ zGW := zgw1 (i := 148) rfl rfl
theorem qw_261 : (Jvm.Cond.static ({ cls := "FreeShelf$Grammar", name := "allows", desc := "(IIII)Z" } : Jvm.MethodName)) ∈ zGW := zgw1 (i := 149) rfl rfl
theorem qw_262 : (Jvm.Cond.code ({ cls := "FreeShelf$Grammar", name := "allows", desc := "(IIII)Z" } : Jvm.MethodName) prog_4_method_2_code (4 : Nat) (Option.some Jvm.ClassFile.FieldType.boolean)) ∈ zGW := zgw1 (i := 150) rfl rfl
theorem qw_263 : (Jvm.Cond.fieldLink "FreeShelf$Grammar" (11 : Nat) "FreeShelf$Grammar" "USES" "[I") ∈ zGW := zgw1 (i := 151) rfl rfl
theorem qw_265 : (Jvm.Cond.methodLink "FreeShelf$Grammar" (15 : Nat) ({ cls := "FreeShelf$Grammar", name := "fits", desc := "(II)Z" } : Jvm.MethodName)) ∈ zGW := zgw1 (i := 153) rfl rfl
theorem qw_266 : (Jvm.Cond.static ({ cls := "FreeShelf$Grammar", name := "fits", desc := "(II)Z" } : Jvm.MethodName)) ∈ zGW := zgw1 (i := 154) rfl rfl
theorem qw_267 : (Jvm.Cond.code ({ cls := "FreeShelf$Grammar", name := "fits", desc := "(II)Z" } : Jvm.MethodName) prog_4_method_3_code (2 : Nat) (Option.some Jvm.ClassFile.FieldType.boolean)) ∈ zGW := zgw1 (i := 155) rfl rfl
theorem qw_268 : (Jvm.Cond.fieldLink "FreeShelf$Grammar" (19 : Nat) "FreeShelf$Grammar" "LOWEST" "[I") ∈ zGW := zgw1 (i := 156) rfl rfl
theorem qw_270 : (Jvm.Cond.fieldLink "FreeShelf$Grammar" (22 : Nat) "FreeShelf$Grammar" "HIGHEST" "[I") ∈ zGW := zgw1 (i := 158) rfl rfl
theorem qw_272 : (Jvm.Cond.methodLink "FreeShelf" (58 : Nat) ({ cls := "FreeShelf$Program", name := "size", desc := "(I)I" } : Jvm.MethodName)) ∈ zGW := zgw1 (i := 160) rfl rfl
theorem qw_273 : (Jvm.Cond.instanceMethod ({ cls := "FreeShelf$Program", name := "size", desc := "(I)I" } : Jvm.MethodName)) ∈ zGW := zgw1 (i := 161) rfl rfl
theorem qw_274 : (Jvm.Cond.selects "FreeShelf$Program" ({ cls := "FreeShelf$Program", name := "size", desc := "(I)I" } : Jvm.MethodName) ({ cls := "FreeShelf$Program", name := "size", desc := "(I)I" } : Jvm.MethodName)) ∈ zGW := zgw1 (i := 162) rfl rfl
theorem qw_275 : (Jvm.Cond.code ({ cls := "FreeShelf$Program", name := "size", desc := "(I)I" } : Jvm.MethodName) prog_8_method_3_code (2 : Nat) (Option.some Jvm.ClassFile.FieldType.int)) ∈ zGW := zgw1 (i := 163) rfl rfl
theorem qw_276 : (Jvm.Cond.methodLink "FreeShelf$Program" (53 : Nat) ({ cls := "java/lang/Math", name := "max", desc := "(II)I" } : Jvm.MethodName)) ∈ zGW := zgw1 (i := 164) rfl rfl
theorem qw_277 : (Jvm.Cond.static ({ cls := "java/lang/Math", name := "max", desc := "(II)I" } : Jvm.MethodName)) ∈ zGW := zgw1 (i := 165) rfl rfl
theorem qw_278 : (Jvm.Cond.code ({ cls := "java/lang/Math", name := "max", desc := "(II)I" } : Jvm.MethodName) prog_12_method_65_code (2 : Nat) (Option.some Jvm.ClassFile.FieldType.int)) ∈ zGW := zgw1 (i := 166) rfl rfl
theorem qw_279 : (Jvm.Cond.methodLink "FreeShelf" (62 : Nat) ({ cls := "FreeShelf$Program", name := "append", desc := "(IIIII)I" } : Jvm.MethodName)) ∈ zGW := zgw1 (i := 167) rfl rfl
theorem qw_280 : (Jvm.Cond.instanceMethod ({ cls := "FreeShelf$Program", name := "append", desc := "(IIIII)I" } : Jvm.MethodName)) ∈ zGW := zgw1 (i := 168) rfl rfl
theorem qw_281 : (Jvm.Cond.selects "FreeShelf$Program" ({ cls := "FreeShelf$Program", name := "append", desc := "(IIIII)I" } : Jvm.MethodName) ({ cls := "FreeShelf$Program", name := "append", desc := "(IIIII)I" } : Jvm.MethodName)) ∈ zGW := zgw1 (i := 169) rfl rfl
theorem qw_282 : (Jvm.Cond.code ({ cls := "FreeShelf$Program", name := "append", desc := "(IIIII)I" } : Jvm.MethodName) prog_8_method_4_code (8 : Nat) (Option.some Jvm.ClassFile.FieldType.int)) ∈ zGW := zgw1 (i := 170) rfl rfl
theorem qw_283 : (Jvm.Cond.methodLink "FreeShelf$Program" (59 : Nat) ({ cls := "FreeShelf$Program", name := "size", desc := "(I)I" } : Jvm.MethodName)) ∈ zGW := zgw1 (i := 171) rfl rfl
theorem qw_296 : (Jvm.Cond.methodLink "FreeShelf" (73 : Nat) ({ cls := "FreeShelf$Program", name := "find", desc := "(II)I" } : Jvm.MethodName)) ∈ zGW := zgw1 (i := 184) rfl rfl
theorem qw_297 : (Jvm.Cond.instanceMethod ({ cls := "FreeShelf$Program", name := "find", desc := "(II)I" } : Jvm.MethodName)) ∈ zGW := zgw1 (i := 185) rfl rfl
theorem qw_298 : (Jvm.Cond.selects "FreeShelf$Program" ({ cls := "FreeShelf$Program", name := "find", desc := "(II)I" } : Jvm.MethodName) ({ cls := "FreeShelf$Program", name := "find", desc := "(II)I" } : Jvm.MethodName)) ∈ zGW := zgw1 (i := 186) rfl rfl
theorem qw_299 : (Jvm.Cond.code ({ cls := "FreeShelf$Program", name := "find", desc := "(II)I" } : Jvm.MethodName) prog_8_method_5_code (3 : Nat) (Option.some Jvm.ClassFile.FieldType.int)) ∈ zGW := zgw1 (i := 187) rfl rfl
theorem qw_304 : (Jvm.Cond.methodLink "FreeShelf" (80 : Nat) ({ cls := "FreeShelf$Program", name := "isFullFor", desc := "(I)Z" } : Jvm.MethodName)) ∈ zGW := zgw1 (i := 192) rfl rfl
theorem qw_305 : (Jvm.Cond.instanceMethod ({ cls := "FreeShelf$Program", name := "isFullFor", desc := "(I)Z" } : Jvm.MethodName)) ∈ zGW := zgw1 (i := 193) rfl rfl
theorem qw_306 : (Jvm.Cond.selects "FreeShelf$Program" ({ cls := "FreeShelf$Program", name := "isFullFor", desc := "(I)Z" } : Jvm.MethodName) ({ cls := "FreeShelf$Program", name := "isFullFor", desc := "(I)Z" } : Jvm.MethodName)) ∈ zGW := zgw1 (i := 194) rfl rfl
theorem qw_307 : (Jvm.Cond.code ({ cls := "FreeShelf$Program", name := "isFullFor", desc := "(I)Z" } : Jvm.MethodName) prog_8_method_7_code (2 : Nat) (Option.some Jvm.ClassFile.FieldType.boolean)) ∈ zGW := zgw1 (i := 195) rfl rfl
theorem qw_308 : (Jvm.Cond.methodLink "FreeShelf$Program" (63 : Nat) ({ cls := "FreeShelf$Program", name := "total", desc := "()I" } : Jvm.MethodName)) ∈ zGW := zgw1 (i := 196) rfl rfl
theorem qw_309 : (Jvm.Cond.instanceMethod ({ cls := "FreeShelf$Program", name := "total", desc := "()I" } : Jvm.MethodName)) ∈ zGW := zgw1 (i := 197) rfl rfl
theorem qw_310 : (Jvm.Cond.selects "FreeShelf$Program" ({ cls := "FreeShelf$Program", name := "total", desc := "()I" } : Jvm.MethodName) ({ cls := "FreeShelf$Program", name := "total", desc := "()I" } : Jvm.MethodName)) ∈ zGW := zgw1 (i := 198) rfl rfl
theorem qw_311 : (Jvm.Cond.code ({ cls := "FreeShelf$Program", name := "total", desc := "()I" } : Jvm.MethodName) prog_8_method_6_code (1 : Nat) (Option.some Jvm.ClassFile.FieldType.int)) ∈ zGW := zgw1 (i := 199) rfl rfl
theorem qw_312 : (Jvm.Cond.methodLink "FreeShelf" (83 : Nat) ({ cls := "FreeShelf$Program", name := "addCall", desc := "(III)I" } : Jvm.MethodName)) ∈ zGW := zgw1 (i := 200) rfl rfl
theorem qw_313 : (Jvm.Cond.instanceMethod ({ cls := "FreeShelf$Program", name := "addCall", desc := "(III)I" } : Jvm.MethodName)) ∈ zGW := zgw1 (i := 201) rfl rfl
theorem qw_314 : (Jvm.Cond.selects "FreeShelf$Program" ({ cls := "FreeShelf$Program", name := "addCall", desc := "(III)I" } : Jvm.MethodName) ({ cls := "FreeShelf$Program", name := "addCall", desc := "(III)I" } : Jvm.MethodName)) ∈ zGW := zgw1 (i := 202) rfl rfl
theorem qw_315 : (Jvm.Cond.code ({ cls := "FreeShelf$Program", name := "addCall", desc := "(III)I" } : Jvm.MethodName) prog_8_method_8_code (5 : Nat) (Option.some Jvm.ClassFile.FieldType.int)) ∈ zGW := zgw1 (i := 203) rfl rfl
theorem qw_320 : (Jvm.Cond.methodLink "FreeShelf" (87 : Nat) ({ cls := "FreeShelf$Program", name := "total", desc := "()I" } : Jvm.MethodName)) ∈ zGW := zgw1 (i := 208) rfl rfl
theorem qw_321 : (Jvm.Cond.methodLink "FreeShelf" (94 : Nat) ({ cls := "java/util/Arrays", name := "fill", desc := "([II)V" } : Jvm.MethodName)) ∈ zGW := zgw1 (i := 209) rfl rfl
theorem qw_338 : (Jvm.Cond.methodLink "FreeShelf" (109 : Nat) ({ cls := "FreeShelf", name := "toldOfRoutine", desc := "(II)I" } : Jvm.MethodName)) ∈ zGW := zgw1 (i := 226) rfl rfl
theorem qw_340 : (Jvm.Cond.instanceMethod ({ cls := "FreeShelf", name := "toldOfRoutine", desc := "(II)I" } : Jvm.MethodName)) ∈ zGW := zgw1 (i := 228) rfl rfl
theorem qw_341 : (Jvm.Cond.code ({ cls := "FreeShelf", name := "toldOfRoutine", desc := "(II)I" } : Jvm.MethodName) prog_1_method_34_code (3 : Nat) (Option.some Jvm.ClassFile.FieldType.int)) ∈ zGW := zgw1 (i := 229) rfl rfl
theorem qw_346 : (Jvm.Cond.methodLink "FreeShelf" (112 : Nat) ({ cls := "FreeShelf$Machine", name := "start", desc := "(LFreeShelf$Program;)I" } : Jvm.MethodName)) ∈ zGW := zgw1 (i := 234) rfl rfl
theorem qw_347 : (Jvm.Cond.instanceMethod ({ cls := "FreeShelf$Machine", name := "start", desc := "(LFreeShelf$Program;)I" } : Jvm.MethodName)) ∈ zGW := zgw1 (i := 235) rfl rfl
theorem qw_348 : (Jvm.Cond.selects "FreeShelf$Machine" ({ cls := "FreeShelf$Machine", name := "start", desc := "(LFreeShelf$Program;)I" } : Jvm.MethodName) ({ cls := "FreeShelf$Machine", name := "start", desc := "(LFreeShelf$Program;)I" } : Jvm.MethodName)) ∈ zGW := zgw1 (i := 236) rfl rfl
theorem qw_349 : (Jvm.Cond.code ({ cls := "FreeShelf$Machine", name := "start", desc := "(LFreeShelf$Program;)I" } : Jvm.MethodName) prog_7_method_2_code (4 : Nat) (Option.some Jvm.ClassFile.FieldType.int)) ∈ zGW := zgw1 (i := 237) rfl rfl
theorem qw_350 : (Jvm.Cond.methodLink "FreeShelf$Machine" (28 : Nat) ({ cls := "FreeShelf$Program", name := "copyFrom", desc := "(LFreeShelf$Program;)V" } : Jvm.MethodName)) ∈ zGW := zgw1 (i := 238) rfl rfl
theorem qw_351 : (Jvm.Cond.instanceMethod ({ cls := "FreeShelf$Program", name := "copyFrom", desc := "(LFreeShelf$Program;)V" } : Jvm.MethodName)) ∈ zGW := zgw1 (i := 239) rfl rfl
theorem qw_352 : (Jvm.Cond.selects "FreeShelf$Program" ({ cls := "FreeShelf$Program", name := "copyFrom", desc := "(LFreeShelf$Program;)V" } : Jvm.MethodName) ({ cls := "FreeShelf$Program", name := "copyFrom", desc := "(LFreeShelf$Program;)V" } : Jvm.MethodName)) ∈ zGW := zgw2 (i := 0) rfl rfl
theorem qw_353 : (Jvm.Cond.code ({ cls := "FreeShelf$Program", name := "copyFrom", desc := "(LFreeShelf$Program;)V" } : Jvm.MethodName) prog_8_method_2_code (2 : Nat) (Option.none : Option Jvm.ClassFile.FieldType)) ∈ zGW := zgw2 (i := 1) rfl rfl
theorem qw_354 : (Jvm.Cond.methodLink "FreeShelf$Program" (47 : Nat) ({ cls := "java/lang/System", name := "arraycopy", desc := "(Ljava/lang/Object;ILjava/lang/Object;II)V" } : Jvm.MethodName)) ∈ zGW := zgw2 (i := 2) rfl rfl
theorem qw_355 : (Jvm.Cond.static ({ cls := "java/lang/System", name := "arraycopy", desc := "(Ljava/lang/Object;ILjava/lang/Object;II)V" } : Jvm.MethodName)) ∈ zGW := zgw2 (i := 3) rfl rfl
theorem qw_356 : (Jvm.Cond.native ({ cls := "java/lang/System", name := "arraycopy", desc := "(Ljava/lang/Object;ILjava/lang/Object;II)V" } : Jvm.MethodName)) ∈ zGW := zgw2 (i := 4) rfl rfl
theorem qw_357 : (Jvm.Cond.methodLink "FreeShelf$Machine" (32 : Nat) ({ cls := "java/util/Arrays", name := "fill", desc := "([II)V" } : Jvm.MethodName)) ∈ zGW := zgw2 (i := 5) rfl rfl
theorem qw_358 : (Jvm.Cond.methodLink "FreeShelf$Machine" (41 : Nat) ({ cls := "FreeShelf$Machine", name := "canFinish", desc := "(I)Z" } : Jvm.MethodName)) ∈ zGW := zgw2 (i := 6) rfl rfl
theorem qw_359 : (Jvm.Cond.instanceMethod ({ cls := "FreeShelf$Machine", name := "canFinish", desc := "(I)Z" } : Jvm.MethodName)) ∈ zGW := zgw2 (i := 7) rfl rfl
theorem qw_360 : (Jvm.Cond.selects "FreeShelf$Machine" ({ cls := "FreeShelf$Machine", name := "canFinish", desc := "(I)Z" } : Jvm.MethodName) ({ cls := "FreeShelf$Machine", name := "canFinish", desc := "(I)Z" } : Jvm.MethodName)) ∈ zGW := zgw2 (i := 8) rfl rfl
theorem qw_361 : (Jvm.Cond.code ({ cls := "FreeShelf$Machine", name := "canFinish", desc := "(I)Z" } : Jvm.MethodName) prog_7_method_4_code (5 : Nat) (Option.some Jvm.ClassFile.FieldType.boolean)) ∈ zGW := zgw2 (i := 9) rfl rfl
theorem qw_362 : (Jvm.Cond.methodLink "FreeShelf$Machine" (45 : Nat) ({ cls := "FreeShelf$Layout", name := "ofThread", desc := "(I)I" } : Jvm.MethodName)) ∈ zGW := zgw2 (i := 10) rfl rfl
theorem qw_363 : (Jvm.Cond.static ({ cls := "FreeShelf$Layout", name := "ofThread", desc := "(I)I" } : Jvm.MethodName)) ∈ zGW := zgw2 (i := 11) rfl rfl
theorem qw_364 : (Jvm.Cond.code ({ cls := "FreeShelf$Layout", name := "ofThread", desc := "(I)I" } : Jvm.MethodName) prog_6_method_2_code (1 : Nat) (Option.some Jvm.ClassFile.FieldType.int)) ∈ zGW := zgw2 (i := 12) rfl rfl
theorem qw_365 : (Jvm.Cond.methodLink "FreeShelf$Machine" (58 : Nat) ({ cls := "FreeShelf$Machine", name := "advance", desc := "(I)V" } : Jvm.MethodName)) ∈ zGW := zgw2 (i := 13) rfl rfl
theorem qw_367 : (Jvm.Cond.instanceMethod ({ cls := "FreeShelf$Machine", name := "advance", desc := "(I)V" } : Jvm.MethodName)) ∈ zGW := zgw2 (i := 15) rfl rfl
theorem qw_368 : (Jvm.Cond.code ({ cls := "FreeShelf$Machine", name := "advance", desc := "(I)V" } : Jvm.MethodName) prog_7_method_10_code (8 : Nat) (Option.none : Option Jvm.ClassFile.FieldType)) ∈ zGW := zgw2 (i := 16) rfl rfl
theorem qw_369 : (Jvm.Cond.methodLink "FreeShelf$Machine" (71 : Nat) ({ cls := "FreeShelf$Machine", name := "beginCall", desc := "(II)V" } : Jvm.MethodName)) ∈ zGW := zgw2 (i := 17) rfl rfl
theorem qw_371 : (Jvm.Cond.instanceMethod ({ cls := "FreeShelf$Machine", name := "beginCall", desc := "(II)V" } : Jvm.MethodName)) ∈ zGW := zgw2 (i := 19) rfl rfl
theorem qw_372 : (Jvm.Cond.code ({ cls := "FreeShelf$Machine", name := "beginCall", desc := "(II)V" } : Jvm.MethodName) prog_7_method_11_code (3 : Nat) (Option.none : Option Jvm.ClassFile.FieldType)) ∈ zGW := zgw2 (i := 20) rfl rfl
theorem qw_373 : (Jvm.Cond.methodLink "FreeShelf$Machine" (111 : Nat) ({ cls := "FreeShelf$Value", name := "ofNumber", desc := "(I)I" } : Jvm.MethodName)) ∈ zGW := zgw2 (i := 21) rfl rfl
theorem qw_374 : (Jvm.Cond.static ({ cls := "FreeShelf$Value", name := "ofNumber", desc := "(I)I" } : Jvm.MethodName)) ∈ zGW := zgw2 (i := 22) rfl rfl
theorem qw_375 : (Jvm.Cond.code ({ cls := "FreeShelf$Value", name := "ofNumber", desc := "(I)I" } : Jvm.MethodName) prog_9_method_2_code (1 : Nat) (Option.some Jvm.ClassFile.FieldType.int)) ∈ zGW := zgw2 (i := 23) rfl rfl
theorem qw_376 : (Jvm.Cond.methodLink "FreeShelf$Value" (9 : Nat) ({ cls := "java/lang/Math", name := "min", desc := "(II)I" } : Jvm.MethodName)) ∈ zGW := zgw2 (i := 24) rfl rfl
theorem qw_377 : (Jvm.Cond.static ({ cls := "java/lang/Math", name := "min", desc := "(II)I" } : Jvm.MethodName)) ∈ zGW := zgw2 (i := 25) rfl rfl
theorem qw_378 : (Jvm.Cond.code ({ cls := "java/lang/Math", name := "min", desc := "(II)I" } : Jvm.MethodName) prog_12_method_69_code (2 : Nat) (Option.some Jvm.ClassFile.FieldType.int)) ∈ zGW := zgw2 (i := 26) rfl rfl
theorem qw_379 : (Jvm.Cond.methodLink "FreeShelf$Value" (15 : Nat) ({ cls := "java/lang/Math", name := "max", desc := "(II)I" } : Jvm.MethodName)) ∈ zGW := zgw2 (i := 27) rfl rfl
theorem qw_380 : (Jvm.Cond.methodLink "FreeShelf$Machine" (116 : Nat) ({ cls := "FreeShelf$Machine", name := "callsOver", desc := "()I" } : Jvm.MethodName)) ∈ zGW := zgw2 (i := 28) rfl rfl
theorem qw_382 : (Jvm.Cond.instanceMethod ({ cls := "FreeShelf$Machine", name := "callsOver", desc := "()I" } : Jvm.MethodName)) ∈ zGW := zgw2 (i := 30) rfl rfl
theorem qw_383 : (Jvm.Cond.code ({ cls := "FreeShelf$Machine", name := "callsOver", desc := "()I" } : Jvm.MethodName) prog_7_method_12_code (4 : Nat) (Option.some Jvm.ClassFile.FieldType.int)) ∈ zGW := zgw2 (i := 31) rfl rfl
theorem qw_384 : (Jvm.Cond.methodLink "FreeShelf$Machine" (75 : Nat) ({ cls := "FreeShelf$Machine", name := "ownActs", desc := "(III)I" } : Jvm.MethodName)) ∈ zGW := zgw2 (i := 32) rfl rfl
theorem qw_386 : (Jvm.Cond.instanceMethod ({ cls := "FreeShelf$Machine", name := "ownActs", desc := "(III)I" } : Jvm.MethodName)) ∈ zGW := zgw2 (i := 34) rfl rfl
theorem qw_387 : (Jvm.Cond.code ({ cls := "FreeShelf$Machine", name := "ownActs", desc := "(III)I" } : Jvm.MethodName) prog_7_method_13_code (7 : Nat) (Option.some Jvm.ClassFile.FieldType.int)) ∈ zGW := zgw2 (i := 35) rfl rfl
theorem qw_388 : (Jvm.Cond.methodLink "FreeShelf$Machine" (79 : Nat) ({ cls := "FreeShelf$Program", name := "find", desc := "(II)I" } : Jvm.MethodName)) ∈ zGW := zgw2 (i := 36) rfl rfl
theorem qw_389 : (Jvm.Cond.methodLink "FreeShelf$Machine" (125 : Nat) ({ cls := "FreeShelf$Machine", name := "ownError", desc := "(III)I" } : Jvm.MethodName)) ∈ zGW := zgw2 (i := 37) rfl rfl
theorem qw_391 : (Jvm.Cond.instanceMethod ({ cls := "FreeShelf$Machine", name := "ownError", desc := "(III)I" } : Jvm.MethodName)) ∈ zGW := zgw2 (i := 39) rfl rfl
theorem qw_392 : (Jvm.Cond.code ({ cls := "FreeShelf$Machine", name := "ownError", desc := "(III)I" } : Jvm.MethodName) prog_7_method_14_code (5 : Nat) (Option.some Jvm.ClassFile.FieldType.int)) ∈ zGW := zgw2 (i := 40) rfl rfl
theorem qw_393 : (Jvm.Cond.methodLink "FreeShelf$Machine" (131 : Nat) ({ cls := "FreeShelf$Value", name := "lack", desc := "(II)I" } : Jvm.MethodName)) ∈ zGW := zgw2 (i := 41) rfl rfl
theorem qw_394 : (Jvm.Cond.static ({ cls := "FreeShelf$Value", name := "lack", desc := "(II)I" } : Jvm.MethodName)) ∈ zGW := zgw2 (i := 42) rfl rfl
theorem qw_395 : (Jvm.Cond.code ({ cls := "FreeShelf$Value", name := "lack", desc := "(II)I" } : Jvm.MethodName) prog_9_method_9_code (3 : Nat) (Option.some Jvm.ClassFile.FieldType.int)) ∈ zGW := zgw2 (i := 43) rfl rfl
theorem qw_396 : (Jvm.Cond.methodLink "FreeShelf$Machine" (128 : Nat) ({ cls := "FreeShelf$Machine", name := "ownAct", desc := "(II)V" } : Jvm.MethodName)) ∈ zGW := zgw2 (i := 44) rfl rfl
theorem qw_398 : (Jvm.Cond.instanceMethod ({ cls := "FreeShelf$Machine", name := "ownAct", desc := "(II)V" } : Jvm.MethodName)) ∈ zGW := zgw2 (i := 46) rfl rfl
theorem qw_399 : (Jvm.Cond.code ({ cls := "FreeShelf$Machine", name := "ownAct", desc := "(II)V" } : Jvm.MethodName) prog_7_method_15_code (5 : Nat) (Option.none : Option Jvm.ClassFile.FieldType)) ∈ zGW := zgw2 (i := 47) rfl rfl
theorem qw_400 : (Jvm.Cond.methodLink "FreeShelf$Machine" (134 : Nat) ({ cls := "FreeShelf$Value", name := "marked", desc := "(II)I" } : Jvm.MethodName)) ∈ zGW := zgw2 (i := 48) rfl rfl
theorem qw_401 : (Jvm.Cond.static ({ cls := "FreeShelf$Value", name := "marked", desc := "(II)I" } : Jvm.MethodName)) ∈ zGW := zgw2 (i := 49) rfl rfl
theorem qw_402 : (Jvm.Cond.code ({ cls := "FreeShelf$Value", name := "marked", desc := "(II)I" } : Jvm.MethodName) prog_9_method_7_code (2 : Nat) (Option.some Jvm.ClassFile.FieldType.int)) ∈ zGW := zgw2 (i := 50) rfl rfl
theorem qw_403 : (Jvm.Cond.methodLink "FreeShelf$Machine" (137 : Nat) ({ cls := "FreeShelf$Value", name := "areAlike", desc := "(II)Z" } : Jvm.MethodName)) ∈ zGW := zgw2 (i := 51) rfl rfl
theorem qw_404 : (Jvm.Cond.static ({ cls := "FreeShelf$Value", name := "areAlike", desc := "(II)Z" } : Jvm.MethodName)) ∈ zGW := zgw2 (i := 52) rfl rfl
theorem qw_405 : (Jvm.Cond.code ({ cls := "FreeShelf$Value", name := "areAlike", desc := "(II)Z" } : Jvm.MethodName) prog_9_method_6_code (2 : Nat) (Option.some Jvm.ClassFile.FieldType.boolean)) ∈ zGW := zgw2 (i := 53) rfl rfl
theorem qw_406 : (Jvm.Cond.methodLink "FreeShelf$Machine" (141 : Nat) ({ cls := "FreeShelf$Value", name := "amount", desc := "(I)I" } : Jvm.MethodName)) ∈ zGW := zgw2 (i := 54) rfl rfl
theorem qw_407 : (Jvm.Cond.static ({ cls := "FreeShelf$Value", name := "amount", desc := "(I)I" } : Jvm.MethodName)) ∈ zGW := zgw2 (i := 55) rfl rfl
theorem qw_408 : (Jvm.Cond.code ({ cls := "FreeShelf$Value", name := "amount", desc := "(I)I" } : Jvm.MethodName) prog_9_method_5_code (1 : Nat) (Option.some Jvm.ClassFile.FieldType.int)) ∈ zGW := zgw2 (i := 56) rfl rfl
theorem qw_409 : (Jvm.Cond.methodLink "FreeShelf$Machine" (86 : Nat) ({ cls := "FreeShelf$Machine", name := "waitsForWrites", desc := "(I)Z" } : Jvm.MethodName)) ∈ zGW := zgw2 (i := 57) rfl rfl
theorem qw_410 : (Jvm.Cond.static ({ cls := "FreeShelf$Machine", name := "waitsForWrites", desc := "(I)Z" } : Jvm.MethodName)) ∈ zGW := zgw2 (i := 58) rfl rfl
theorem qw_411 : (Jvm.Cond.code ({ cls := "FreeShelf$Machine", name := "waitsForWrites", desc := "(I)Z" } : Jvm.MethodName) prog_7_method_16_code (1 : Nat) (Option.some Jvm.ClassFile.FieldType.boolean)) ∈ zGW := zgw2 (i := 59) rfl rfl
theorem qw_412 : (Jvm.Cond.methodLink "FreeShelf$Machine" (89 : Nat) ({ cls := "FreeShelf$Machine", name := "letComeUntil", desc := "(II)V" } : Jvm.MethodName)) ∈ zGW := zgw2 (i := 60) rfl rfl
theorem qw_414 : (Jvm.Cond.instanceMethod ({ cls := "FreeShelf$Machine", name := "letComeUntil", desc := "(II)V" } : Jvm.MethodName)) ∈ zGW := zgw2 (i := 62) rfl rfl
theorem qw_415 : (Jvm.Cond.code ({ cls := "FreeShelf$Machine", name := "letComeUntil", desc := "(II)V" } : Jvm.MethodName) prog_7_method_23_code (4 : Nat) (Option.none : Option Jvm.ClassFile.FieldType)) ∈ zGW := zgw2 (i := 63) rfl rfl
theorem qw_416 : (Jvm.Cond.methodLink "FreeShelf$Machine" (65 : Nat) ({ cls := "FreeShelf$Machine", name := "comeOldest", desc := "(I)V" } : Jvm.MethodName)) ∈ zGW := zgw2 (i := 64) rfl rfl
theorem qw_418 : (Jvm.Cond.instanceMethod ({ cls := "FreeShelf$Machine", name := "comeOldest", desc := "(I)V" } : Jvm.MethodName)) ∈ zGW := zgw2 (i := 66) rfl rfl
theorem qw_419 : (Jvm.Cond.code ({ cls := "FreeShelf$Machine", name := "comeOldest", desc := "(I)V" } : Jvm.MethodName) prog_7_method_24_code (4 : Nat) (Option.none : Option Jvm.ClassFile.FieldType)) ∈ zGW := zgw2 (i := 67) rfl rfl
theorem qw_420 : (Jvm.Cond.methodLink "FreeShelf$Machine" (163 : Nat) ({ cls := "FreeShelf$Machine", name := "store", desc := "(II)V" } : Jvm.MethodName)) ∈ zGW := zgw2 (i := 68) rfl rfl
theorem qw_422 : (Jvm.Cond.instanceMethod ({ cls := "FreeShelf$Machine", name := "store", desc := "(II)V" } : Jvm.MethodName)) ∈ zGW := zgw2 (i := 70) rfl rfl
theorem qw_423 : (Jvm.Cond.code ({ cls := "FreeShelf$Machine", name := "store", desc := "(II)V" } : Jvm.MethodName) prog_7_method_25_code (4 : Nat) (Option.none : Option Jvm.ClassFile.FieldType)) ∈ zGW := zgw2 (i := 71) rfl rfl
theorem qw_424 : (Jvm.Cond.methodLink "FreeShelf$Machine" (92 : Nat) ({ cls := "FreeShelf$Machine", name := "memoryError", desc := "(II)I" } : Jvm.MethodName)) ∈ zGW := zgw2 (i := 72) rfl rfl
theorem qw_426 : (Jvm.Cond.instanceMethod ({ cls := "FreeShelf$Machine", name := "memoryError", desc := "(II)I" } : Jvm.MethodName)) ∈ zGW := zgw2 (i := 74) rfl rfl
theorem qw_427 : (Jvm.Cond.code ({ cls := "FreeShelf$Machine", name := "memoryError", desc := "(II)I" } : Jvm.MethodName) prog_7_method_18_code (4 : Nat) (Option.some Jvm.ClassFile.FieldType.int)) ∈ zGW := zgw2 (i := 75) rfl rfl
theorem qw_428 : (Jvm.Cond.methodLink "FreeShelf$Machine" (144 : Nat) ({ cls := "FreeShelf$Machine", name := "nodeError", desc := "(II)I" } : Jvm.MethodName)) ∈ zGW := zgw2 (i := 76) rfl rfl
theorem qw_430 : (Jvm.Cond.instanceMethod ({ cls := "FreeShelf$Machine", name := "nodeError", desc := "(II)I" } : Jvm.MethodName)) ∈ zGW := zgw2 (i := 78) rfl rfl
theorem qw_431 : (Jvm.Cond.code ({ cls := "FreeShelf$Machine", name := "nodeError", desc := "(II)I" } : Jvm.MethodName) prog_7_method_19_code (5 : Nat) (Option.some Jvm.ClassFile.FieldType.int)) ∈ zGW := zgw2 (i := 79) rfl rfl
theorem qw_432 : (Jvm.Cond.methodLink "FreeShelf$Machine" (147 : Nat) ({ cls := "FreeShelf$Value", name := "kind", desc := "(I)I" } : Jvm.MethodName)) ∈ zGW := zgw2 (i := 80) rfl rfl
theorem qw_433 : (Jvm.Cond.static ({ cls := "FreeShelf$Value", name := "kind", desc := "(I)I" } : Jvm.MethodName)) ∈ zGW := zgw2 (i := 81) rfl rfl
theorem qw_434 : (Jvm.Cond.code ({ cls := "FreeShelf$Value", name := "kind", desc := "(I)I" } : Jvm.MethodName) prog_9_method_4_code (1 : Nat) (Option.some Jvm.ClassFile.FieldType.int)) ∈ zGW := zgw2 (i := 82) rfl rfl
theorem qw_435 : (Jvm.Cond.methodLink "FreeShelf$Machine" (95 : Nat) ({ cls := "FreeShelf$Machine", name := "appends", desc := "(I)Z" } : Jvm.MethodName)) ∈ zGW := zgw2 (i := 83) rfl rfl
theorem qw_436 : (Jvm.Cond.static ({ cls := "FreeShelf$Machine", name := "appends", desc := "(I)Z" } : Jvm.MethodName)) ∈ zGW := zgw2 (i := 84) rfl rfl
theorem qw_437 : (Jvm.Cond.code ({ cls := "FreeShelf$Machine", name := "appends", desc := "(I)Z" } : Jvm.MethodName) prog_7_method_17_code (1 : Nat) (Option.some Jvm.ClassFile.FieldType.boolean)) ∈ zGW := zgw2 (i := 85) rfl rfl
theorem qw_438 : (Jvm.Cond.methodLink "FreeShelf$Machine" (98 : Nat) ({ cls := "FreeShelf$Machine", name := "perform", desc := "(III)V" } : Jvm.MethodName)) ∈ zGW := zgw2 (i := 86) rfl rfl
theorem qw_440 : (Jvm.Cond.instanceMethod ({ cls := "FreeShelf$Machine", name := "perform", desc := "(III)V" } : Jvm.MethodName)) ∈ zGW := zgw2 (i := 88) rfl rfl
theorem qw_441 : (Jvm.Cond.code ({ cls := "FreeShelf$Machine", name := "perform", desc := "(III)V" } : Jvm.MethodName) prog_7_method_20_code (7 : Nat) (Option.none : Option Jvm.ClassFile.FieldType)) ∈ zGW := zgw2 (i := 89) rfl rfl
theorem qw_442 : (Jvm.Cond.methodLink "FreeShelf$Machine" (150 : Nat) ({ cls := "FreeShelf$Machine", name := "seen", desc := "(II)I" } : Jvm.MethodName)) ∈ zGW := zgw2 (i := 90) rfl rfl
theorem qw_444 : (Jvm.Cond.instanceMethod ({ cls := "FreeShelf$Machine", name := "seen", desc := "(II)I" } : Jvm.MethodName)) ∈ zGW := zgw2 (i := 92) rfl rfl
theorem qw_445 : (Jvm.Cond.code ({ cls := "FreeShelf$Machine", name := "seen", desc := "(II)I" } : Jvm.MethodName) prog_7_method_21_code (6 : Nat) (Option.some Jvm.ClassFile.FieldType.int)) ∈ zGW := zgw2 (i := 93) rfl rfl
theorem qw_446 : (Jvm.Cond.methodLink "FreeShelf$Machine" (153 : Nat) ({ cls := "FreeShelf$Layout", name := "ofField", desc := "(II)I" } : Jvm.MethodName)) ∈ zGW := zgw2 (i := 94) rfl rfl
theorem qw_447 : (Jvm.Cond.static ({ cls := "FreeShelf$Layout", name := "ofField", desc := "(II)I" } : Jvm.MethodName)) ∈ zGW := zgw2 (i := 95) rfl rfl
theorem qw_448 : (Jvm.Cond.code ({ cls := "FreeShelf$Layout", name := "ofField", desc := "(II)I" } : Jvm.MethodName) prog_6_method_3_code (2 : Nat) (Option.some Jvm.ClassFile.FieldType.int)) ∈ zGW := zgw2 (i := 96) rfl rfl
theorem qw_449 : (Jvm.Cond.methodLink "FreeShelf$Machine" (156 : Nat) ({ cls := "FreeShelf$Machine", name := "write", desc := "(III)V" } : Jvm.MethodName)) ∈ zGW := zgw2 (i := 97) rfl rfl
theorem qw_451 : (Jvm.Cond.instanceMethod ({ cls := "FreeShelf$Machine", name := "write", desc := "(III)V" } : Jvm.MethodName)) ∈ zGW := zgw2 (i := 99) rfl rfl
theorem qw_452 : (Jvm.Cond.code ({ cls := "FreeShelf$Machine", name := "write", desc := "(III)V" } : Jvm.MethodName) prog_7_method_22_code (4 : Nat) (Option.none : Option Jvm.ClassFile.FieldType)) ∈ zGW := zgw2 (i := 100) rfl rfl
theorem qw_453 : (Jvm.Cond.methodLink "FreeShelf$Machine" (159 : Nat) ({ cls := "FreeShelf$Machine", name := "swap", desc := "(IIII)V" } : Jvm.MethodName)) ∈ zGW := zgw2 (i := 101) rfl rfl
theorem qw_455 : (Jvm.Cond.instanceMethod ({ cls := "FreeShelf$Machine", name := "swap", desc := "(IIII)V" } : Jvm.MethodName)) ∈ zGW := zgw2 (i := 103) rfl rfl
theorem qw_456 : (Jvm.Cond.code ({ cls := "FreeShelf$Machine", name := "swap", desc := "(IIII)V" } : Jvm.MethodName) prog_7_method_26_code (6 : Nat) (Option.none : Option Jvm.ClassFile.FieldType)) ∈ zGW := zgw2 (i := 104) rfl rfl
theorem qw_457 : (Jvm.Cond.methodLink "FreeShelf$Machine" (166 : Nat) ({ cls := "FreeShelf$Machine", name := "takeNode", desc := "()I" } : Jvm.MethodName)) ∈ zGW := zgw2 (i := 105) rfl rfl
theorem qw_459 : (Jvm.Cond.instanceMethod ({ cls := "FreeShelf$Machine", name := "takeNode", desc := "()I" } : Jvm.MethodName)) ∈ zGW := zgw2 (i := 107) rfl rfl
theorem qw_460 : (Jvm.Cond.code ({ cls := "FreeShelf$Machine", name := "takeNode", desc := "()I" } : Jvm.MethodName) prog_7_method_27_code (2 : Nat) (Option.some Jvm.ClassFile.FieldType.int)) ∈ zGW := zgw2 (i := 108) rfl rfl
theorem qw_461 : (Jvm.Cond.methodLink "FreeShelf$Machine" (185 : Nat) ({ cls := "FreeShelf$Value", name := "ofNode", desc := "(I)I" } : Jvm.MethodName)) ∈ zGW := zgw2 (i := 109) rfl rfl
theorem qw_462 : (Jvm.Cond.static ({ cls := "FreeShelf$Value", name := "ofNode", desc := "(I)I" } : Jvm.MethodName)) ∈ zGW := zgw2 (i := 110) rfl rfl
theorem qw_463 : (Jvm.Cond.code ({ cls := "FreeShelf$Value", name := "ofNode", desc := "(I)I" } : Jvm.MethodName) prog_9_method_3_code (1 : Nat) (Option.some Jvm.ClassFile.FieldType.int)) ∈ zGW := zgw2 (i := 111) rfl rfl
theorem qw_464 : (Jvm.Cond.methodLink "FreeShelf$Machine" (169 : Nat) ({ cls := "FreeShelf$Machine", name := "release", desc := "(I)V" } : Jvm.MethodName)) ∈ zGW := zgw2 (i := 112) rfl rfl
theorem qw_466 : (Jvm.Cond.instanceMethod ({ cls := "FreeShelf$Machine", name := "release", desc := "(I)V" } : Jvm.MethodName)) ∈ zGW := zgw2 (i := 114) rfl rfl
theorem qw_467 : (Jvm.Cond.code ({ cls := "FreeShelf$Machine", name := "release", desc := "(I)V" } : Jvm.MethodName) prog_7_method_28_code (3 : Nat) (Option.none : Option Jvm.ClassFile.FieldType)) ∈ zGW := zgw2 (i := 115) rfl rfl
theorem qw_468 : (Jvm.Cond.methodLink "FreeShelf$Machine" (172 : Nat) ({ cls := "FreeShelf$Machine", name := "guardFor", desc := "(I)I" } : Jvm.MethodName)) ∈ zGW := zgw2 (i := 116) rfl rfl
theorem qw_469 : (Jvm.Cond.static ({ cls := "FreeShelf$Machine", name := "guardFor", desc := "(I)I" } : Jvm.MethodName)) ∈ zGW := zgw2 (i := 117) rfl rfl
theorem qw_470 : (Jvm.Cond.code ({ cls := "FreeShelf$Machine", name := "guardFor", desc := "(I)I" } : Jvm.MethodName) prog_7_method_29_code (1 : Nat) (Option.some Jvm.ClassFile.FieldType.int)) ∈ zGW := zgw2 (i := 118) rfl rfl
theorem qw_471 : (Jvm.Cond.methodLink "FreeShelf$Machine" (175 : Nat) ({ cls := "FreeShelf$Value", name := "answerFrom", desc := "(I)I" } : Jvm.MethodName)) ∈ zGW := zgw2 (i := 119) rfl rfl
theorem qw_472 : (Jvm.Cond.static ({ cls := "FreeShelf$Value", name := "answerFrom", desc := "(I)I" } : Jvm.MethodName)) ∈ zGW := zgw2 (i := 120) rfl rfl
theorem qw_473 : (Jvm.Cond.code ({ cls := "FreeShelf$Value", name := "answerFrom", desc := "(I)I" } : Jvm.MethodName) prog_9_method_10_code (1 : Nat) (Option.some Jvm.ClassFile.FieldType.int)) ∈ zGW := zgw2 (i := 121) rfl rfl
theorem qw_474 : (Jvm.Cond.methodLink "FreeShelf$Value" (20 : Nat) ({ cls := "FreeShelf$Value", name := "kind", desc := "(I)I" } : Jvm.MethodName)) ∈ zGW := zgw2 (i := 122) rfl rfl
theorem qw_475 : (Jvm.Cond.methodLink "FreeShelf$Value" (24 : Nat) ({ cls := "FreeShelf$Value", name := "amount", desc := "(I)I" } : Jvm.MethodName)) ∈ zGW := zgw2 (i := 123) rfl rfl
theorem qw_476 : (Jvm.Cond.methodLink "FreeShelf$Machine" (178 : Nat) ({ cls := "FreeShelf$Machine", name := "endCall", desc := "(III)V" } : Jvm.MethodName)) ∈ zGW := zgw2 (i := 124) rfl rfl
theorem qw_478 : (Jvm.Cond.instanceMethod ({ cls := "FreeShelf$Machine", name := "endCall", desc := "(III)V" } : Jvm.MethodName)) ∈ zGW := zgw2 (i := 126) rfl rfl
theorem qw_479 : (Jvm.Cond.code ({ cls := "FreeShelf$Machine", name := "endCall", desc := "(III)V" } : Jvm.MethodName) prog_7_method_30_code (5 : Nat) (Option.none : Option Jvm.ClassFile.FieldType)) ∈ zGW := zgw2 (i := 127) rfl rfl
theorem qw_480 : (Jvm.Cond.methodLink "FreeShelf$Machine" (102 : Nat) ({ cls := "FreeShelf$Machine", name := "noteMoment", desc := "(III)V" } : Jvm.MethodName)) ∈ zGW := zgw2 (i := 128) rfl rfl
theorem qw_482 : (Jvm.Cond.instanceMethod ({ cls := "FreeShelf$Machine", name := "noteMoment", desc := "(III)V" } : Jvm.MethodName)) ∈ zGW := zgw2 (i := 130) rfl rfl
theorem qw_483 : (Jvm.Cond.code ({ cls := "FreeShelf$Machine", name := "noteMoment", desc := "(III)V" } : Jvm.MethodName) prog_7_method_31_code (9 : Nat) (Option.none : Option Jvm.ClassFile.FieldType)) ∈ zGW := zgw2 (i := 131) rfl rfl
theorem qw_484 : (Jvm.Cond.methodLink "FreeShelf$Machine" (105 : Nat) ({ cls := "FreeShelf$Machine", name := "settle", desc := "(I)V" } : Jvm.MethodName)) ∈ zGW := zgw2 (i := 132) rfl rfl
theorem qw_486 : (Jvm.Cond.instanceMethod ({ cls := "FreeShelf$Machine", name := "settle", desc := "(I)V" } : Jvm.MethodName)) ∈ zGW := zgw2 (i := 134) rfl rfl
theorem qw_487 : (Jvm.Cond.code ({ cls := "FreeShelf$Machine", name := "settle", desc := "(I)V" } : Jvm.MethodName) prog_7_method_32_code (3 : Nat) (Option.none : Option Jvm.ClassFile.FieldType)) ∈ zGW := zgw2 (i := 135) rfl rfl
theorem qw_488 : (Jvm.Cond.methodLink "FreeShelf$Machine" (188 : Nat) ({ cls := "FreeShelf$Machine", name := "freeUnguarded", desc := "()V" } : Jvm.MethodName)) ∈ zGW := zgw2 (i := 136) rfl rfl
theorem qw_490 : (Jvm.Cond.instanceMethod ({ cls := "FreeShelf$Machine", name := "freeUnguarded", desc := "()V" } : Jvm.MethodName)) ∈ zGW := zgw2 (i := 138) rfl rfl
theorem qw_491 : (Jvm.Cond.code ({ cls := "FreeShelf$Machine", name := "freeUnguarded", desc := "()V" } : Jvm.MethodName) prog_7_method_33_code (2 : Nat) (Option.none : Option Jvm.ClassFile.FieldType)) ∈ zGW := zgw2 (i := 139) rfl rfl
theorem qw_492 : (Jvm.Cond.methodLink "FreeShelf$Machine" (194 : Nat) ({ cls := "FreeShelf$Machine", name := "isGuarded", desc := "(I)Z" } : Jvm.MethodName)) ∈ zGW := zgw2 (i := 140) rfl rfl
theorem qw_494 : (Jvm.Cond.instanceMethod ({ cls := "FreeShelf$Machine", name := "isGuarded", desc := "(I)Z" } : Jvm.MethodName)) ∈ zGW := zgw2 (i := 142) rfl rfl
theorem qw_495 : (Jvm.Cond.code ({ cls := "FreeShelf$Machine", name := "isGuarded", desc := "(I)Z" } : Jvm.MethodName) prog_7_method_34_code (4 : Nat) (Option.some Jvm.ClassFile.FieldType.boolean)) ∈ zGW := zgw2 (i := 143) rfl rfl
theorem qw_496 : (Jvm.Cond.methodLink "FreeShelf$Machine" (191 : Nat) ({ cls := "FreeShelf$Machine", name := "turnEpoch", desc := "()V" } : Jvm.MethodName)) ∈ zGW := zgw2 (i := 144) rfl rfl
theorem qw_498 : (Jvm.Cond.instanceMethod ({ cls := "FreeShelf$Machine", name := "turnEpoch", desc := "()V" } : Jvm.MethodName)) ∈ zGW := zgw2 (i := 146) rfl rfl
theorem qw_499 : (Jvm.Cond.code ({ cls := "FreeShelf$Machine", name := "turnEpoch", desc := "()V" } : Jvm.MethodName) prog_7_method_35_code (5 : Nat) (Option.none : Option Jvm.ClassFile.FieldType)) ∈ zGW := zgw2 (i := 147) rfl rfl
theorem qw_500 : (Jvm.Cond.methodLink "FreeShelf$Machine" (197 : Nat) ({ cls := "FreeShelf$Machine", name := "waitingNodes", desc := "()I" } : Jvm.MethodName)) ∈ zGW := zgw2 (i := 148) rfl rfl
theorem qw_501 : (Jvm.Cond.instanceMethod ({ cls := "FreeShelf$Machine", name := "waitingNodes", desc := "()I" } : Jvm.MethodName)) ∈ zGW := zgw2 (i := 149) rfl rfl
theorem qw_502 : (Jvm.Cond.selects "FreeShelf$Machine" ({ cls := "FreeShelf$Machine", name := "waitingNodes", desc := "()I" } : Jvm.MethodName) ({ cls := "FreeShelf$Machine", name := "waitingNodes", desc := "()I" } : Jvm.MethodName)) ∈ zGW := zgw2 (i := 150) rfl rfl
theorem qw_503 : (Jvm.Cond.code ({ cls := "FreeShelf$Machine", name := "waitingNodes", desc := "()I" } : Jvm.MethodName) prog_7_method_8_code (3 : Nat) (Option.some Jvm.ClassFile.FieldType.int)) ∈ zGW := zgw2 (i := 151) rfl rfl
theorem qw_504 : (Jvm.Cond.methodLink "FreeShelf$Machine" (200 : Nat) ({ cls := "FreeShelf$Machine", name := "areAllInPresent", desc := "()Z" } : Jvm.MethodName)) ∈ zGW := zgw2 (i := 152) rfl rfl
theorem qw_506 : (Jvm.Cond.instanceMethod ({ cls := "FreeShelf$Machine", name := "areAllInPresent", desc := "()Z" } : Jvm.MethodName)) ∈ zGW := zgw2 (i := 154) rfl rfl
theorem qw_507 : (Jvm.Cond.code ({ cls := "FreeShelf$Machine", name := "areAllInPresent", desc := "()Z" } : Jvm.MethodName) prog_7_method_36_code (3 : Nat) (Option.some Jvm.ClassFile.FieldType.boolean)) ∈ zGW := zgw2 (i := 155) rfl rfl
theorem qw_512 : (Jvm.Cond.methodLink "FreeShelf" (116 : Nat) ({ cls := "FreeShelf", name := "isChoice", desc := "(I)Z" } : Jvm.MethodName)) ∈ zGW := zgw2 (i := 160) rfl rfl
theorem qw_513 : (Jvm.Cond.static ({ cls := "FreeShelf", name := "isChoice", desc := "(I)Z" } : Jvm.MethodName)) ∈ zGW := zgw2 (i := 161) rfl rfl
theorem qw_514 : (Jvm.Cond.code ({ cls := "FreeShelf", name := "isChoice", desc := "(I)Z" } : Jvm.MethodName) prog_1_method_33_code (1 : Nat) (Option.some Jvm.ClassFile.FieldType.boolean)) ∈ zGW := zgw2 (i := 162) rfl rfl
theorem qw_515 : (Jvm.Cond.methodLink "FreeShelf" (119 : Nat) ({ cls := "FreeShelf$Machine", name := "isPossible", desc := "(I)Z" } : Jvm.MethodName)) ∈ zGW := zgw2 (i := 163) rfl rfl
theorem qw_516 : (Jvm.Cond.instanceMethod ({ cls := "FreeShelf$Machine", name := "isPossible", desc := "(I)Z" } : Jvm.MethodName)) ∈ zGW := zgw2 (i := 164) rfl rfl
theorem qw_517 : (Jvm.Cond.selects "FreeShelf$Machine" ({ cls := "FreeShelf$Machine", name := "isPossible", desc := "(I)Z" } : Jvm.MethodName) ({ cls := "FreeShelf$Machine", name := "isPossible", desc := "(I)Z" } : Jvm.MethodName)) ∈ zGW := zgw2 (i := 165) rfl rfl
theorem qw_518 : (Jvm.Cond.code ({ cls := "FreeShelf$Machine", name := "isPossible", desc := "(I)Z" } : Jvm.MethodName) prog_7_method_5_code (3 : Nat) (Option.some Jvm.ClassFile.FieldType.boolean)) ∈ zGW := zgw2 (i := 166) rfl rfl
theorem qw_519 : (Jvm.Cond.methodLink "FreeShelf" (122 : Nat) ({ cls := "FreeShelf", name := "choose", desc := "(I)V" } : Jvm.MethodName)) ∈ zGW := zgw2 (i := 167) rfl rfl
theorem qw_521 : (Jvm.Cond.instanceMethod ({ cls := "FreeShelf", name := "choose", desc := "(I)V" } : Jvm.MethodName)) ∈ zGW := zgw2 (i := 169) rfl rfl
theorem qw_522 : (Jvm.Cond.code ({ cls := "FreeShelf", name := "choose", desc := "(I)V" } : Jvm.MethodName) prog_1_method_37_code (2 : Nat) (Option.none : Option Jvm.ClassFile.FieldType)) ∈ zGW := zgw2 (i := 170) rfl rfl
theorem qw_523 : (Jvm.Cond.methodLink "FreeShelf" (222 : Nat) ({ cls := "FreeShelf$Machine", name := "choose", desc := "(I)V" } : Jvm.MethodName)) ∈ zGW := zgw2 (i := 171) rfl rfl
theorem qw_524 : (Jvm.Cond.instanceMethod ({ cls := "FreeShelf$Machine", name := "choose", desc := "(I)V" } : Jvm.MethodName)) ∈ zGW := zgw2 (i := 172) rfl rfl
theorem qw_525 : (Jvm.Cond.selects "FreeShelf$Machine" ({ cls := "FreeShelf$Machine", name := "choose", desc := "(I)V" } : Jvm.MethodName) ({ cls := "FreeShelf$Machine", name := "choose", desc := "(I)V" } : Jvm.MethodName)) ∈ zGW := zgw2 (i := 173) rfl rfl
theorem qw_526 : (Jvm.Cond.code ({ cls := "FreeShelf$Machine", name := "choose", desc := "(I)V" } : Jvm.MethodName) prog_7_method_9_code (2 : Nat) (Option.none : Option Jvm.ClassFile.FieldType)) ∈ zGW := zgw2 (i := 174) rfl rfl
theorem qw_535 : (Jvm.Cond.methodLink "FreeShelf" (126 : Nat) ({ cls := "FreeShelf", name := "choiceInTurn", desc := "()I" } : Jvm.MethodName)) ∈ zGW := zgw2 (i := 183) rfl rfl
theorem qw_537 : (Jvm.Cond.instanceMethod ({ cls := "FreeShelf", name := "choiceInTurn", desc := "()I" } : Jvm.MethodName)) ∈ zGW := zgw2 (i := 185) rfl rfl
theorem qw_538 : (Jvm.Cond.code ({ cls := "FreeShelf", name := "choiceInTurn", desc := "()I" } : Jvm.MethodName) prog_1_method_38_code (4 : Nat) (Option.some Jvm.ClassFile.FieldType.int)) ∈ zGW := zgw2 (i := 186) rfl rfl
theorem qw_543 : (Jvm.Cond.methodLink "FreeShelf" (134 : Nat) ({ cls := "FreeShelf$Value", name := "part", desc := "(II)I" } : Jvm.MethodName)) ∈ zGW := zgw2 (i := 191) rfl rfl
theorem qw_544 : (Jvm.Cond.static ({ cls := "FreeShelf$Value", name := "part", desc := "(II)I" } : Jvm.MethodName)) ∈ zGW := zgw2 (i := 192) rfl rfl
theorem qw_545 : (Jvm.Cond.code ({ cls := "FreeShelf$Value", name := "part", desc := "(II)I" } : Jvm.MethodName) prog_9_method_8_code (2 : Nat) (Option.some Jvm.ClassFile.FieldType.int)) ∈ zGW := zgw2 (i := 193) rfl rfl
theorem qw_550 : (Jvm.Cond.methodLink "FreeShelf" (139 : Nat) ({ cls := "FreeShelf", name := "isThread", desc := "(I)Z" } : Jvm.MethodName)) ∈ zGW := zgw2 (i := 198) rfl rfl
theorem qw_551 : (Jvm.Cond.static ({ cls := "FreeShelf", name := "isThread", desc := "(I)Z" } : Jvm.MethodName)) ∈ zGW := zgw2 (i := 199) rfl rfl
theorem qw_552 : (Jvm.Cond.code ({ cls := "FreeShelf", name := "isThread", desc := "(I)Z" } : Jvm.MethodName) prog_1_method_32_code (1 : Nat) (Option.some Jvm.ClassFile.FieldType.boolean)) ∈ zGW := zgw2 (i := 200) rfl rfl
theorem qw_553 : (Jvm.Cond.methodLink "FreeShelf" (142 : Nat) ({ cls := "FreeShelf$Layout", name := "ofThread", desc := "(I)I" } : Jvm.MethodName)) ∈ zGW := zgw2 (i := 201) rfl rfl
theorem qw_558 : (Jvm.Cond.methodLink "FreeShelf" (145 : Nat) ({ cls := "java/lang/Math", name := "min", desc := "(II)I" } : Jvm.MethodName)) ∈ zGW := zgw2 (i := 206) rfl rfl
theorem qw_563 : (Jvm.Cond.methodLink "FreeShelf" (150 : Nat) ({ cls := "FreeShelf", name := "toldOfThread", desc := "(II)I" } : Jvm.MethodName)) ∈ zGW := zgw2 (i := 211) rfl rfl
theorem qw_565 : (Jvm.Cond.instanceMethod ({ cls := "FreeShelf", name := "toldOfThread", desc := "(II)I" } : Jvm.MethodName)) ∈ zGW := zgw2 (i := 213) rfl rfl
theorem qw_566 : (Jvm.Cond.code ({ cls := "FreeShelf", name := "toldOfThread", desc := "(II)I" } : Jvm.MethodName) prog_1_method_35_code (4 : Nat) (Option.some Jvm.ClassFile.FieldType.int)) ∈ zGW := zgw2 (i := 214) rfl rfl
theorem qw_567 : (Jvm.Cond.methodLink "FreeShelf" (219 : Nat) ({ cls := "FreeShelf", name := "lessOne", desc := "(I)I" } : Jvm.MethodName)) ∈ zGW := zgw2 (i := 215) rfl rfl
theorem qw_568 : (Jvm.Cond.static ({ cls := "FreeShelf", name := "lessOne", desc := "(I)I" } : Jvm.MethodName)) ∈ zGW := zgw2 (i := 216) rfl rfl
theorem qw_569 : (Jvm.Cond.code ({ cls := "FreeShelf", name := "lessOne", desc := "(I)I" } : Jvm.MethodName) prog_1_method_36_code (1 : Nat) (Option.some Jvm.ClassFile.FieldType.int)) ∈ zGW := zgw2 (i := 217) rfl rfl
theorem qw_582 : (Jvm.Cond.methodLink "FreeShelf" (153 : Nat) ({ cls := "FreeShelf$Machine", name := "isAtEnd", desc := "()Z" } : Jvm.MethodName)) ∈ zGW := zgw2 (i := 230) rfl rfl
theorem qw_583 : (Jvm.Cond.instanceMethod ({ cls := "FreeShelf$Machine", name := "isAtEnd", desc := "()Z" } : Jvm.MethodName)) ∈ zGW := zgw2 (i := 231) rfl rfl
theorem qw_584 : (Jvm.Cond.selects "FreeShelf$Machine" ({ cls := "FreeShelf$Machine", name := "isAtEnd", desc := "()Z" } : Jvm.MethodName) ({ cls := "FreeShelf$Machine", name := "isAtEnd", desc := "()Z" } : Jvm.MethodName)) ∈ zGW := zgw2 (i := 232) rfl rfl
theorem qw_585 : (Jvm.Cond.code ({ cls := "FreeShelf$Machine", name := "isAtEnd", desc := "()Z" } : Jvm.MethodName) prog_7_method_6_code (2 : Nat) (Option.some Jvm.ClassFile.FieldType.boolean)) ∈ zGW := zgw2 (i := 233) rfl rfl
theorem qw_586 : (Jvm.Cond.methodLink "FreeShelf$Machine" (62 : Nat) ({ cls := "FreeShelf$Machine", name := "isPossible", desc := "(I)Z" } : Jvm.MethodName)) ∈ zGW := zgw2 (i := 234) rfl rfl
theorem qw_587 : (Jvm.Cond.methodLink "FreeShelf" (157 : Nat) ({ cls := "FreeShelf$Judge", name := "findsOrder", desc := "(LFreeShelf$Machine;)Z" } : Jvm.MethodName)) ∈ zGW := zgw2 (i := 235) rfl rfl
theorem qw_588 : (Jvm.Cond.instanceMethod ({ cls := "FreeShelf$Judge", name := "findsOrder", desc := "(LFreeShelf$Machine;)Z" } : Jvm.MethodName)) ∈ zGW := zgw2 (i := 236) rfl rfl
theorem qw_589 : (Jvm.Cond.selects "FreeShelf$Judge" ({ cls := "FreeShelf$Judge", name := "findsOrder", desc := "(LFreeShelf$Machine;)Z" } : Jvm.MethodName) ({ cls := "FreeShelf$Judge", name := "findsOrder", desc := "(LFreeShelf$Machine;)Z" } : Jvm.MethodName)) ∈ zGW := zgw2 (i := 237) rfl rfl
theorem qw_590 : (Jvm.Cond.code ({ cls := "FreeShelf$Judge", name := "findsOrder", desc := "(LFreeShelf$Machine;)Z" } : Jvm.MethodName) prog_5_method_2_code (2 : Nat) (Option.some Jvm.ClassFile.FieldType.boolean)) ∈ zGW := zgw2 (i := 238) rfl rfl
theorem qw_591 : (Jvm.Cond.methodLink "FreeShelf$Judge" (16 : Nat) ({ cls := "FreeShelf$Machine", name := "hasError", desc := "()Z" } : Jvm.MethodName)) ∈ zGW := zgw2 (i := 239) rfl rfl
theorem qw_592 : (Jvm.Cond.instanceMethod ({ cls := "FreeShelf$Machine", name := "hasError", desc := "()Z" } : Jvm.MethodName)) ∈ zGW := zgw3 (i := 0) rfl rfl
theorem qw_593 : (Jvm.Cond.selects "FreeShelf$Machine" ({ cls := "FreeShelf$Machine", name := "hasError", desc := "()Z" } : Jvm.MethodName) ({ cls := "FreeShelf$Machine", name := "hasError", desc := "()Z" } : Jvm.MethodName)) ∈ zGW := zgw3 (i := 1) rfl rfl
theorem qw_594 : (Jvm.Cond.code ({ cls := "FreeShelf$Machine", name := "hasError", desc := "()Z" } : Jvm.MethodName) prog_7_method_7_code (2 : Nat) (Option.some Jvm.ClassFile.FieldType.boolean)) ∈ zGW := zgw3 (i := 2) rfl rfl
theorem qw_595 : (Jvm.Cond.methodLink "FreeShelf$Judge" (32 : Nat) ({ cls := "FreeShelf$Judge", name := "fillFirstShelf", desc := "(LFreeShelf$Program;)V" } : Jvm.MethodName)) ∈ zGW := zgw3 (i := 3) rfl rfl
theorem qw_597 : (Jvm.Cond.instanceMethod ({ cls := "FreeShelf$Judge", name := "fillFirstShelf", desc := "(LFreeShelf$Program;)V" } : Jvm.MethodName)) ∈ zGW := zgw3 (i := 5) rfl rfl
theorem qw_598 : (Jvm.Cond.code ({ cls := "FreeShelf$Judge", name := "fillFirstShelf", desc := "(LFreeShelf$Program;)V" } : Jvm.MethodName) prog_5_method_4_code (3 : Nat) (Option.none : Option Jvm.ClassFile.FieldType)) ∈ zGW := zgw3 (i := 6) rfl rfl
theorem qw_599 : (Jvm.Cond.methodLink "FreeShelf$Judge" (54 : Nat) ({ cls := "java/util/Arrays", name := "fill", desc := "([II)V" } : Jvm.MethodName)) ∈ zGW := zgw3 (i := 7) rfl rfl
theorem qw_600 : (Jvm.Cond.methodLink "FreeShelf$Judge" (50 : Nat) ({ cls := "FreeShelf$Judge", name := "serve", desc := "(LFreeShelf$Program;II[I)Z" } : Jvm.MethodName)) ∈ zGW := zgw3 (i := 8) rfl rfl
theorem qw_601 : (Jvm.Cond.static ({ cls := "FreeShelf$Judge", name := "serve", desc := "(LFreeShelf$Program;II[I)Z" } : Jvm.MethodName)) ∈ zGW := zgw3 (i := 9) rfl rfl
theorem qw_602 : (Jvm.Cond.code ({ cls := "FreeShelf$Judge", name := "serve", desc := "(LFreeShelf$Program;II[I)Z" } : Jvm.MethodName) prog_5_method_7_code (6 : Nat) (Option.some Jvm.ClassFile.FieldType.boolean)) ∈ zGW := zgw3 (i := 10) rfl rfl
theorem qw_603 : (Jvm.Cond.methodLink "FreeShelf$Judge" (82 : Nat) ({ cls := "FreeShelf$Judge", name := "removeFrom", desc := "([II)I" } : Jvm.MethodName)) ∈ zGW := zgw3 (i := 11) rfl rfl
theorem qw_604 : (Jvm.Cond.static ({ cls := "FreeShelf$Judge", name := "removeFrom", desc := "([II)I" } : Jvm.MethodName)) ∈ zGW := zgw3 (i := 12) rfl rfl
theorem qw_605 : (Jvm.Cond.code ({ cls := "FreeShelf$Judge", name := "removeFrom", desc := "([II)I" } : Jvm.MethodName) prog_5_method_9_code (2 : Nat) (Option.some Jvm.ClassFile.FieldType.int)) ∈ zGW := zgw3 (i := 13) rfl rfl
theorem qw_606 : (Jvm.Cond.methodLink "FreeShelf$Judge" (86 : Nat) ({ cls := "FreeShelf$Judge", name := "addTo", desc := "([II)V" } : Jvm.MethodName)) ∈ zGW := zgw3 (i := 14) rfl rfl
theorem qw_607 : (Jvm.Cond.static ({ cls := "FreeShelf$Judge", name := "addTo", desc := "([II)V" } : Jvm.MethodName)) ∈ zGW := zgw3 (i := 15) rfl rfl
theorem qw_608 : (Jvm.Cond.code ({ cls := "FreeShelf$Judge", name := "addTo", desc := "([II)V" } : Jvm.MethodName) prog_5_method_8_code (2 : Nat) (Option.none : Option Jvm.ClassFile.FieldType)) ∈ zGW := zgw3 (i := 16) rfl rfl
theorem qw_609 : (Jvm.Cond.methodLink "FreeShelf$Judge" (36 : Nat) ({ cls := "FreeShelf$Judge", name := "extendOrder", desc := "(LFreeShelf$Machine;[[III)Z" } : Jvm.MethodName)) ∈ zGW := zgw3 (i := 17) rfl rfl
theorem qw_610 : (Jvm.Cond.static ({ cls := "FreeShelf$Judge", name := "extendOrder", desc := "(LFreeShelf$Machine;[[III)Z" } : Jvm.MethodName)) ∈ zGW := zgw3 (i := 18) rfl rfl
theorem qw_611 : (Jvm.Cond.code ({ cls := "FreeShelf$Judge", name := "extendOrder", desc := "(LFreeShelf$Machine;[[III)Z" } : Jvm.MethodName) prog_5_method_5_code (6 : Nat) (Option.some Jvm.ClassFile.FieldType.boolean)) ∈ zGW := zgw3 (i := 19) rfl rfl
theorem qw_612 : (Jvm.Cond.methodLink "FreeShelf$Judge" (46 : Nat) ({ cls := "FreeShelf$Program", name := "total", desc := "()I" } : Jvm.MethodName)) ∈ zGW := zgw3 (i := 20) rfl rfl
theorem qw_613 : (Jvm.Cond.methodLink "FreeShelf$Judge" (63 : Nat) ({ cls := "FreeShelf$Judge", name := "canFollow", desc := "(LFreeShelf$Machine;II)Z" } : Jvm.MethodName)) ∈ zGW := zgw3 (i := 21) rfl rfl
theorem qw_614 : (Jvm.Cond.static ({ cls := "FreeShelf$Judge", name := "canFollow", desc := "(LFreeShelf$Machine;II)Z" } : Jvm.MethodName)) ∈ zGW := zgw3 (i := 22) rfl rfl
theorem qw_615 : (Jvm.Cond.code ({ cls := "FreeShelf$Judge", name := "canFollow", desc := "(LFreeShelf$Machine;II)Z" } : Jvm.MethodName) prog_5_method_6_code (3 : Nat) (Option.some Jvm.ClassFile.FieldType.boolean)) ∈ zGW := zgw3 (i := 23) rfl rfl
theorem qw_616 : (Jvm.Cond.methodLink "FreeShelf$Judge" (67 : Nat) ({ cls := "java/lang/System", name := "arraycopy", desc := "(Ljava/lang/Object;ILjava/lang/Object;II)V" } : Jvm.MethodName)) ∈ zGW := zgw3 (i := 24) rfl rfl
theorem qw_621 : (Jvm.Cond.methodLink "FreeShelf" (164 : Nat) ({ cls := "FreeShelf$Judge", name := "followsMoments", desc := "(LFreeShelf$Machine;)Z" } : Jvm.MethodName)) ∈ zGW := zgw3 (i := 29) rfl rfl
theorem qw_622 : (Jvm.Cond.instanceMethod ({ cls := "FreeShelf$Judge", name := "followsMoments", desc := "(LFreeShelf$Machine;)Z" } : Jvm.MethodName)) ∈ zGW := zgw3 (i := 30) rfl rfl
theorem qw_623 : (Jvm.Cond.selects "FreeShelf$Judge" ({ cls := "FreeShelf$Judge", name := "followsMoments", desc := "(LFreeShelf$Machine;)Z" } : Jvm.MethodName) ({ cls := "FreeShelf$Judge", name := "followsMoments", desc := "(LFreeShelf$Machine;)Z" } : Jvm.MethodName)) ∈ zGW := zgw3 (i := 31) rfl rfl
theorem qw_624 : (Jvm.Cond.code ({ cls := "FreeShelf$Judge", name := "followsMoments", desc := "(LFreeShelf$Machine;)Z" } : Jvm.MethodName) prog_5_method_3_code (5 : Nat) (Option.some Jvm.ClassFile.FieldType.boolean)) ∈ zGW := zgw3 (i := 32) rfl rfl
theorem qw_644 : (Jvm.Cond.fieldLink "FreeShelf$Cycles" (9 : Nat) "FreeShelf$Cycles" "found" "[I") ∈ zGW := zgw3 (i := 52) rfl rfl
theorem qw_645 : (Jvm.Cond.fieldLink "FreeShelf$Cycles" (15 : Nat) "FreeShelf$Cycles" "low" "[I") ∈ zGW := zgw3 (i := 53) rfl rfl
theorem qw_646 : (Jvm.Cond.fieldLink "FreeShelf$Cycles" (18 : Nat) "FreeShelf$Cycles" "tried" "[I") ∈ zGW := zgw3 (i := 54) rfl rfl
theorem qw_647 : (Jvm.Cond.fieldLink "FreeShelf$Cycles" (21 : Nat) "FreeShelf$Cycles" "path" "[I") ∈ zGW := zgw3 (i := 55) rfl rfl
theorem qw_648 : (Jvm.Cond.fieldLink "FreeShelf$Cycles" (24 : Nat) "FreeShelf$Cycles" "open" "[I") ∈ zGW := zgw3 (i := 56) rfl rfl
theorem qw_649 : (Jvm.Cond.fieldLink "FreeShelf$Cycles" (27 : Nat) "FreeShelf$Cycles" "isOpen" "[Z") ∈ zGW := zgw3 (i := 57) rfl rfl
theorem qw_650 : (Jvm.Cond.fieldLink "FreeShelf$Cycles" (31 : Nat) "FreeShelf$Cycles" "time" "I") ∈ zGW := zgw3 (i := 58) rfl rfl
theorem qw_651 : (Jvm.Cond.fieldLink "FreeShelf$Cycles" (35 : Nat) "FreeShelf$Cycles" "length" "I") ∈ zGW := zgw3 (i := 59) rfl rfl
theorem qw_652 : (Jvm.Cond.fieldLink "FreeShelf$Cycles" (38 : Nat) "FreeShelf$Cycles" "opened" "I") ∈ zGW := zgw3 (i := 60) rfl rfl
theorem qw_653 : (Jvm.Cond.fieldLink "FreeShelf$Cycles" (41 : Nat) "FreeShelf$Cycles" "best" "I") ∈ zGW := zgw3 (i := 61) rfl rfl
theorem qw_676 : (Jvm.Cond.fieldLink "FreeShelf$Exploration" (12 : Nat) "FreeShelf$Exploration" "machine" "LFreeShelf$Machine;") ∈ zGW := zgw3 (i := 84) rfl rfl
theorem qw_678 : (Jvm.Cond.fieldLink "FreeShelf$Exploration" (21 : Nat) "FreeShelf$Exploration" "rows" "[I") ∈ zGW := zgw3 (i := 86) rfl rfl
theorem qw_680 : (Jvm.Cond.fieldLink "FreeShelf$Exploration" (25 : Nat) "FreeShelf$Exploration" "next" "[I") ∈ zGW := zgw3 (i := 88) rfl rfl
theorem qw_682 : (Jvm.Cond.fieldLink "FreeShelf$Exploration" (28 : Nat) "FreeShelf$Exploration" "parents" "[I") ∈ zGW := zgw3 (i := 90) rfl rfl
theorem qw_683 : (Jvm.Cond.fieldLink "FreeShelf$Exploration" (31 : Nat) "FreeShelf$Exploration" "choices" "[I") ∈ zGW := zgw3 (i := 91) rfl rfl
theorem qw_685 : (Jvm.Cond.fieldLink "FreeShelf$Exploration" (34 : Nat) "FreeShelf$Exploration" "depths" "[I") ∈ zGW := zgw3 (i := 93) rfl rfl
theorem qw_687 : (Jvm.Cond.fieldLink "FreeShelf$Exploration" (37 : Nat) "FreeShelf$Exploration" "traits" "[I") ∈ zGW := zgw3 (i := 95) rfl rfl
theorem qw_688 : (Jvm.Cond.fieldLink "FreeShelf$Exploration" (40 : Nat) "FreeShelf$Exploration" "places" "[I") ∈ zGW := zgw3 (i := 96) rfl rfl
theorem qw_689 : (Jvm.Cond.fieldLink "FreeShelf$Exploration" (46 : Nat) "FreeShelf$Exploration" "cycles" "LFreeShelf$Cycles;") ∈ zGW := zgw3 (i := 97) rfl rfl
theorem qw_690 : (Jvm.Cond.fieldLink "FreeShelf$Exploration" (50 : Nat) "FreeShelf$Exploration" "known" "Z") ∈ zGW := zgw3 (i := 98) rfl rfl
theorem qw_692 : (Jvm.Cond.fieldLink "FreeShelf$Exploration" (54 : Nat) "FreeShelf$Exploration" "incomplete" "Z") ∈ zGW := zgw3 (i := 100) rfl rfl
theorem qw_694 : (Jvm.Cond.fieldLink "FreeShelf$Exploration" (57 : Nat) "FreeShelf$Exploration" "states" "I") ∈ zGW := zgw3 (i := 102) rfl rfl
theorem qw_696 : (Jvm.Cond.fieldLink "FreeShelf$Exploration" (61 : Nat) "FreeShelf$Exploration" "mostWaiting" "I") ∈ zGW := zgw3 (i := 104) rfl rfl
theorem qw_697 : (Jvm.Cond.fieldLink "FreeShelf$Exploration" (64 : Nat) "FreeShelf$Exploration" "results" "I") ∈ zGW := zgw3 (i := 105) rfl rfl
theorem qw_699 : (Jvm.Cond.fieldLink "FreeShelf$Exploration" (67 : Nat) "FreeShelf$Exploration" "firstStuck" "I") ∈ zGW := zgw3 (i := 107) rfl rfl
theorem qw_700 : (Jvm.Cond.fieldLink "FreeShelf$Exploration" (70 : Nat) "FreeShelf$Exploration" "firstInCycle" "I") ∈ zGW := zgw3 (i := 108) rfl rfl
theorem qw_734 : (Jvm.Cond.methodLink "FreeShelf" (176 : Nat) ({ cls := "FreeShelf$Exploration", name := "goThrough", desc := "(LFreeShelf$Judge;)V" } : Jvm.MethodName)) ∈ zGW := zgw3 (i := 142) rfl rfl
theorem qw_735 : (Jvm.Cond.instanceMethod ({ cls := "FreeShelf$Exploration", name := "goThrough", desc := "(LFreeShelf$Judge;)V" } : Jvm.MethodName)) ∈ zGW := zgw3 (i := 143) rfl rfl
theorem qw_736 : (Jvm.Cond.selects "FreeShelf$Exploration" ({ cls := "FreeShelf$Exploration", name := "goThrough", desc := "(LFreeShelf$Judge;)V" } : Jvm.MethodName) ({ cls := "FreeShelf$Exploration", name := "goThrough", desc := "(LFreeShelf$Judge;)V" } : Jvm.MethodName)) ∈ zGW := zgw3 (i := 144) rfl rfl
theorem qw_737 : (Jvm.Cond.code ({ cls := "FreeShelf$Exploration", name := "goThrough", desc := "(LFreeShelf$Judge;)V" } : Jvm.MethodName) prog_3_method_3_code (4 : Nat) (Option.none : Option Jvm.ClassFile.FieldType)) ∈ zGW := zgw3 (i := 145) rfl rfl
theorem qw_738 : (Jvm.Cond.methodLink "FreeShelf$Exploration" (73 : Nat) ({ cls := "FreeShelf$Exploration", name := "forget", desc := "()V" } : Jvm.MethodName)) ∈ zGW := zgw3 (i := 146) rfl rfl
theorem qw_740 : (Jvm.Cond.instanceMethod ({ cls := "FreeShelf$Exploration", name := "forget", desc := "()V" } : Jvm.MethodName)) ∈ zGW := zgw3 (i := 148) rfl rfl
theorem qw_741 : (Jvm.Cond.code ({ cls := "FreeShelf$Exploration", name := "forget", desc := "()V" } : Jvm.MethodName) prog_3_method_4_code (1 : Nat) (Option.none : Option Jvm.ClassFile.FieldType)) ∈ zGW := zgw3 (i := 149) rfl rfl
theorem qw_742 : (Jvm.Cond.methodLink "FreeShelf$Exploration" (99 : Nat) ({ cls := "java/util/Arrays", name := "fill", desc := "([II)V" } : Jvm.MethodName)) ∈ zGW := zgw3 (i := 150) rfl rfl
theorem qw_743 : (Jvm.Cond.methodLink "FreeShelf$Exploration" (76 : Nat) ({ cls := "FreeShelf$Exploration", name := "keep", desc := "(II)I" } : Jvm.MethodName)) ∈ zGW := zgw3 (i := 151) rfl rfl
theorem qw_745 : (Jvm.Cond.instanceMethod ({ cls := "FreeShelf$Exploration", name := "keep", desc := "(II)I" } : Jvm.MethodName)) ∈ zGW := zgw3 (i := 153) rfl rfl
theorem qw_746 : (Jvm.Cond.code ({ cls := "FreeShelf$Exploration", name := "keep", desc := "(II)I" } : Jvm.MethodName) prog_3_method_6_code (4 : Nat) (Option.some Jvm.ClassFile.FieldType.int)) ∈ zGW := zgw3 (i := 154) rfl rfl
theorem qw_747 : (Jvm.Cond.methodLink "FreeShelf$Exploration" (114 : Nat) ({ cls := "FreeShelf$Exploration", name := "findPlace", desc := "()I" } : Jvm.MethodName)) ∈ zGW := zgw3 (i := 155) rfl rfl
theorem qw_749 : (Jvm.Cond.instanceMethod ({ cls := "FreeShelf$Exploration", name := "findPlace", desc := "()I" } : Jvm.MethodName)) ∈ zGW := zgw3 (i := 157) rfl rfl
theorem qw_750 : (Jvm.Cond.code ({ cls := "FreeShelf$Exploration", name := "findPlace", desc := "()I" } : Jvm.MethodName) prog_3_method_7_code (4 : Nat) (Option.some Jvm.ClassFile.FieldType.int)) ∈ zGW := zgw3 (i := 158) rfl rfl
theorem qw_751 : (Jvm.Cond.constant "FreeShelf$Exploration" (117 : Nat) (-1640531535 : Int32)) ∈ zGW := zgw3 (i := 159) rfl rfl
theorem qw_752 : (Jvm.Cond.methodLink "FreeShelf$Exploration" (118 : Nat) ({ cls := "FreeShelf$Exploration", name := "isSame", desc := "(I)Z" } : Jvm.MethodName)) ∈ zGW := zgw3 (i := 160) rfl rfl
theorem qw_754 : (Jvm.Cond.instanceMethod ({ cls := "FreeShelf$Exploration", name := "isSame", desc := "(I)Z" } : Jvm.MethodName)) ∈ zGW := zgw3 (i := 162) rfl rfl
theorem qw_755 : (Jvm.Cond.code ({ cls := "FreeShelf$Exploration", name := "isSame", desc := "(I)Z" } : Jvm.MethodName) prog_3_method_8_code (4 : Nat) (Option.some Jvm.ClassFile.FieldType.boolean)) ∈ zGW := zgw3 (i := 163) rfl rfl
theorem qw_756 : (Jvm.Cond.methodLink "FreeShelf$Exploration" (108 : Nat) ({ cls := "java/lang/System", name := "arraycopy", desc := "(Ljava/lang/Object;ILjava/lang/Object;II)V" } : Jvm.MethodName)) ∈ zGW := zgw3 (i := 164) rfl rfl
theorem qw_757 : (Jvm.Cond.methodLink "FreeShelf$Exploration" (80 : Nat) ({ cls := "FreeShelf$Exploration", name := "load", desc := "(I)V" } : Jvm.MethodName)) ∈ zGW := zgw3 (i := 165) rfl rfl
theorem qw_759 : (Jvm.Cond.instanceMethod ({ cls := "FreeShelf$Exploration", name := "load", desc := "(I)V" } : Jvm.MethodName)) ∈ zGW := zgw3 (i := 167) rfl rfl
theorem qw_760 : (Jvm.Cond.code ({ cls := "FreeShelf$Exploration", name := "load", desc := "(I)V" } : Jvm.MethodName) prog_3_method_5_code (2 : Nat) (Option.none : Option Jvm.ClassFile.FieldType)) ∈ zGW := zgw3 (i := 168) rfl rfl
theorem qw_761 : (Jvm.Cond.methodLink "FreeShelf$Exploration" (84 : Nat) ({ cls := "FreeShelf$Exploration", name := "describe", desc := "(ILFreeShelf$Judge;)V" } : Jvm.MethodName)) ∈ zGW := zgw3 (i := 169) rfl rfl
theorem qw_763 : (Jvm.Cond.instanceMethod ({ cls := "FreeShelf$Exploration", name := "describe", desc := "(ILFreeShelf$Judge;)V" } : Jvm.MethodName)) ∈ zGW := zgw3 (i := 171) rfl rfl
theorem qw_764 : (Jvm.Cond.code ({ cls := "FreeShelf$Exploration", name := "describe", desc := "(ILFreeShelf$Judge;)V" } : Jvm.MethodName) prog_3_method_9_code (5 : Nat) (Option.none : Option Jvm.ClassFile.FieldType)) ∈ zGW := zgw3 (i := 172) rfl rfl
theorem qw_765 : (Jvm.Cond.methodLink "FreeShelf$Exploration" (121 : Nat) ({ cls := "FreeShelf$Machine", name := "waitingNodes", desc := "()I" } : Jvm.MethodName)) ∈ zGW := zgw3 (i := 173) rfl rfl
theorem qw_766 : (Jvm.Cond.methodLink "FreeShelf$Exploration" (124 : Nat) ({ cls := "FreeShelf$Machine", name := "hasError", desc := "()Z" } : Jvm.MethodName)) ∈ zGW := zgw3 (i := 174) rfl rfl
theorem qw_767 : (Jvm.Cond.methodLink "FreeShelf$Exploration" (128 : Nat) ({ cls := "FreeShelf$Machine", name := "isAtEnd", desc := "()Z" } : Jvm.MethodName)) ∈ zGW := zgw3 (i := 175) rfl rfl
theorem qw_768 : (Jvm.Cond.methodLink "FreeShelf$Exploration" (131 : Nat) ({ cls := "FreeShelf$Judge", name := "findsOrder", desc := "(LFreeShelf$Machine;)Z" } : Jvm.MethodName)) ∈ zGW := zgw3 (i := 176) rfl rfl
theorem qw_769 : (Jvm.Cond.methodLink "FreeShelf$Exploration" (146 : Nat) ({ cls := "FreeShelf$Judge", name := "followsMoments", desc := "(LFreeShelf$Machine;)Z" } : Jvm.MethodName)) ∈ zGW := zgw3 (i := 177) rfl rfl
theorem qw_770 : (Jvm.Cond.methodLink "FreeShelf$Exploration" (149 : Nat) ({ cls := "java/lang/Math", name := "max", desc := "(II)I" } : Jvm.MethodName)) ∈ zGW := zgw3 (i := 178) rfl rfl
theorem qw_771 : (Jvm.Cond.methodLink "FreeShelf$Exploration" (88 : Nat) ({ cls := "FreeShelf$Machine", name := "isPossible", desc := "(I)Z" } : Jvm.MethodName)) ∈ zGW := zgw3 (i := 179) rfl rfl
theorem qw_772 : (Jvm.Cond.methodLink "FreeShelf$Exploration" (92 : Nat) ({ cls := "FreeShelf$Machine", name := "choose", desc := "(I)V" } : Jvm.MethodName)) ∈ zGW := zgw3 (i := 180) rfl rfl
theorem qw_773 : (Jvm.Cond.methodLink "FreeShelf$Exploration" (95 : Nat) ({ cls := "FreeShelf$Exploration", name := "countResults", desc := "()I" } : Jvm.MethodName)) ∈ zGW := zgw3 (i := 181) rfl rfl
theorem qw_775 : (Jvm.Cond.instanceMethod ({ cls := "FreeShelf$Exploration", name := "countResults", desc := "()I" } : Jvm.MethodName)) ∈ zGW := zgw3 (i := 183) rfl rfl
theorem qw_776 : (Jvm.Cond.code ({ cls := "FreeShelf$Exploration", name := "countResults", desc := "()I" } : Jvm.MethodName) prog_3_method_20_code (3 : Nat) (Option.some Jvm.ClassFile.FieldType.int)) ∈ zGW := zgw3 (i := 184) rfl rfl
theorem qw_777 : (Jvm.Cond.methodLink "FreeShelf$Exploration" (184 : Nat) ({ cls := "FreeShelf$Exploration", name := "isNewResult", desc := "(I)Z" } : Jvm.MethodName)) ∈ zGW := zgw3 (i := 185) rfl rfl
theorem qw_779 : (Jvm.Cond.instanceMethod ({ cls := "FreeShelf$Exploration", name := "isNewResult", desc := "(I)Z" } : Jvm.MethodName)) ∈ zGW := zgw3 (i := 187) rfl rfl
theorem qw_780 : (Jvm.Cond.code ({ cls := "FreeShelf$Exploration", name := "isNewResult", desc := "(I)Z" } : Jvm.MethodName) prog_3_method_21_code (6 : Nat) (Option.some Jvm.ClassFile.FieldType.boolean)) ∈ zGW := zgw3 (i := 188) rfl rfl
theorem qw_781 : (Jvm.Cond.methodLink "FreeShelf$Exploration" (187 : Nat) ({ cls := "FreeShelf$Exploration", name := "hasSameAnswers", desc := "(II)Z" } : Jvm.MethodName)) ∈ zGW := zgw3 (i := 189) rfl rfl
theorem qw_783 : (Jvm.Cond.instanceMethod ({ cls := "FreeShelf$Exploration", name := "hasSameAnswers", desc := "(II)Z" } : Jvm.MethodName)) ∈ zGW := zgw3 (i := 191) rfl rfl
theorem qw_784 : (Jvm.Cond.code ({ cls := "FreeShelf$Exploration", name := "hasSameAnswers", desc := "(II)Z" } : Jvm.MethodName) prog_3_method_22_code (5 : Nat) (Option.some Jvm.ClassFile.FieldType.boolean)) ∈ zGW := zgw3 (i := 192) rfl rfl
theorem qw_789 : (Jvm.Cond.methodLink "FreeShelf" (186 : Nat) ({ cls := "FreeShelf$Exploration", name := "figure", desc := "(I)I" } : Jvm.MethodName)) ∈ zGW := zgw3 (i := 197) rfl rfl
theorem qw_790 : (Jvm.Cond.instanceMethod ({ cls := "FreeShelf$Exploration", name := "figure", desc := "(I)I" } : Jvm.MethodName)) ∈ zGW := zgw3 (i := 198) rfl rfl
theorem qw_791 : (Jvm.Cond.selects "FreeShelf$Exploration" ({ cls := "FreeShelf$Exploration", name := "figure", desc := "(I)I" } : Jvm.MethodName) ({ cls := "FreeShelf$Exploration", name := "figure", desc := "(I)I" } : Jvm.MethodName)) ∈ zGW := zgw3 (i := 199) rfl rfl
theorem qw_792 : (Jvm.Cond.code ({ cls := "FreeShelf$Exploration", name := "figure", desc := "(I)I" } : Jvm.MethodName) prog_3_method_10_code (2 : Nat) (Option.some Jvm.ClassFile.FieldType.int)) ∈ zGW := zgw3 (i := 200) rfl rfl
theorem qw_793 : (Jvm.Cond.methodLink "FreeShelf$Exploration" (154 : Nat) ({ cls := "FreeShelf$Exploration", name := "countTrait", desc := "(I)I" } : Jvm.MethodName)) ∈ zGW := zgw3 (i := 201) rfl rfl
theorem qw_795 : (Jvm.Cond.instanceMethod ({ cls := "FreeShelf$Exploration", name := "countTrait", desc := "(I)I" } : Jvm.MethodName)) ∈ zGW := zgw3 (i := 203) rfl rfl
theorem qw_796 : (Jvm.Cond.code ({ cls := "FreeShelf$Exploration", name := "countTrait", desc := "(I)I" } : Jvm.MethodName) prog_3_method_11_code (4 : Nat) (Option.some Jvm.ClassFile.FieldType.int)) ∈ zGW := zgw3 (i := 204) rfl rfl
theorem qw_797 : (Jvm.Cond.methodLink "FreeShelf$Exploration" (158 : Nat) ({ cls := "FreeShelf$Exploration", name := "countPairs", desc := "()I" } : Jvm.MethodName)) ∈ zGW := zgw3 (i := 205) rfl rfl
theorem qw_799 : (Jvm.Cond.instanceMethod ({ cls := "FreeShelf$Exploration", name := "countPairs", desc := "()I" } : Jvm.MethodName)) ∈ zGW := zgw3 (i := 207) rfl rfl
theorem qw_800 : (Jvm.Cond.code ({ cls := "FreeShelf$Exploration", name := "countPairs", desc := "()I" } : Jvm.MethodName) prog_3_method_12_code (3 : Nat) (Option.some Jvm.ClassFile.FieldType.int)) ∈ zGW := zgw3 (i := 208) rfl rfl
theorem qw_805 : (Jvm.Cond.methodLink "FreeShelf" (189 : Nat) ({ cls := "FreeShelf$Exploration", name := "stuckState", desc := "()I" } : Jvm.MethodName)) ∈ zGW := zgw3 (i := 213) rfl rfl
theorem qw_806 : (Jvm.Cond.instanceMethod ({ cls := "FreeShelf$Exploration", name := "stuckState", desc := "()I" } : Jvm.MethodName)) ∈ zGW := zgw3 (i := 214) rfl rfl
theorem qw_807 : (Jvm.Cond.selects "FreeShelf$Exploration" ({ cls := "FreeShelf$Exploration", name := "stuckState", desc := "()I" } : Jvm.MethodName) ({ cls := "FreeShelf$Exploration", name := "stuckState", desc := "()I" } : Jvm.MethodName)) ∈ zGW := zgw3 (i := 215) rfl rfl
theorem qw_808 : (Jvm.Cond.code ({ cls := "FreeShelf$Exploration", name := "stuckState", desc := "()I" } : Jvm.MethodName) prog_3_method_16_code (4 : Nat) (Option.some Jvm.ClassFile.FieldType.int)) ∈ zGW := zgw3 (i := 216) rfl rfl
theorem qw_809 : (Jvm.Cond.methodLink "FreeShelf$Exploration" (170 : Nat) ({ cls := "FreeShelf$Exploration", name := "isWithinCall", desc := "(II)Z" } : Jvm.MethodName)) ∈ zGW := zgw3 (i := 217) rfl rfl
theorem qw_811 : (Jvm.Cond.instanceMethod ({ cls := "FreeShelf$Exploration", name := "isWithinCall", desc := "(II)Z" } : Jvm.MethodName)) ∈ zGW := zgw3 (i := 219) rfl rfl
theorem qw_812 : (Jvm.Cond.code ({ cls := "FreeShelf$Exploration", name := "isWithinCall", desc := "(II)Z" } : Jvm.MethodName) prog_3_method_17_code (4 : Nat) (Option.some Jvm.ClassFile.FieldType.boolean)) ∈ zGW := zgw3 (i := 220) rfl rfl
theorem qw_813 : (Jvm.Cond.methodLink "FreeShelf$Exploration" (177 : Nat) ({ cls := "FreeShelf$Layout", name := "ofThread", desc := "(I)I" } : Jvm.MethodName)) ∈ zGW := zgw3 (i := 221) rfl rfl
theorem qw_814 : (Jvm.Cond.methodLink "FreeShelf$Exploration" (174 : Nat) ({ cls := "FreeShelf$Machine", name := "canFinish", desc := "(I)Z" } : Jvm.MethodName)) ∈ zGW := zgw3 (i := 222) rfl rfl
theorem qw_815 : (Jvm.Cond.methodLink "FreeShelf" (192 : Nat) ({ cls := "FreeShelf$Exploration", name := "find", desc := "(I)I" } : Jvm.MethodName)) ∈ zGW := zgw3 (i := 223) rfl rfl
theorem qw_816 : (Jvm.Cond.instanceMethod ({ cls := "FreeShelf$Exploration", name := "find", desc := "(I)I" } : Jvm.MethodName)) ∈ zGW := zgw3 (i := 224) rfl rfl
theorem qw_817 : (Jvm.Cond.selects "FreeShelf$Exploration" ({ cls := "FreeShelf$Exploration", name := "find", desc := "(I)I" } : Jvm.MethodName) ({ cls := "FreeShelf$Exploration", name := "find", desc := "(I)I" } : Jvm.MethodName)) ∈ zGW := zgw3 (i := 225) rfl rfl
theorem qw_818 : (Jvm.Cond.code ({ cls := "FreeShelf$Exploration", name := "find", desc := "(I)I" } : Jvm.MethodName) prog_3_method_13_code (2 : Nat) (Option.some Jvm.ClassFile.FieldType.int)) ∈ zGW := zgw3 (i := 226) rfl rfl
theorem qw_819 : (Jvm.Cond.methodLink "FreeShelf$Exploration" (161 : Nat) ({ cls := "FreeShelf$Exploration", name := "withTrait", desc := "(II)I" } : Jvm.MethodName)) ∈ zGW := zgw3 (i := 227) rfl rfl
theorem qw_821 : (Jvm.Cond.instanceMethod ({ cls := "FreeShelf$Exploration", name := "withTrait", desc := "(II)I" } : Jvm.MethodName)) ∈ zGW := zgw3 (i := 229) rfl rfl
theorem qw_822 : (Jvm.Cond.code ({ cls := "FreeShelf$Exploration", name := "withTrait", desc := "(II)I" } : Jvm.MethodName) prog_3_method_14_code (5 : Nat) (Option.some Jvm.ClassFile.FieldType.int)) ∈ zGW := zgw3 (i := 230) rfl rfl
theorem qw_823 : (Jvm.Cond.methodLink "FreeShelf$Exploration" (164 : Nat) ({ cls := "FreeShelf$Exploration", name := "stateInCycle", desc := "()I" } : Jvm.MethodName)) ∈ zGW := zgw3 (i := 231) rfl rfl
theorem qw_825 : (Jvm.Cond.instanceMethod ({ cls := "FreeShelf$Exploration", name := "stateInCycle", desc := "()I" } : Jvm.MethodName)) ∈ zGW := zgw3 (i := 233) rfl rfl
theorem qw_826 : (Jvm.Cond.code ({ cls := "FreeShelf$Exploration", name := "stateInCycle", desc := "()I" } : Jvm.MethodName) prog_3_method_18_code (1 : Nat) (Option.some Jvm.ClassFile.FieldType.int)) ∈ zGW := zgw3 (i := 234) rfl rfl
theorem qw_827 : (Jvm.Cond.methodLink "FreeShelf$Exploration" (180 : Nat) ({ cls := "FreeShelf$Cycles", name := "lowest", desc := "([II)I" } : Jvm.MethodName)) ∈ zGW := zgw3 (i := 235) rfl rfl
theorem qw_828 : (Jvm.Cond.instanceMethod ({ cls := "FreeShelf$Cycles", name := "lowest", desc := "([II)I" } : Jvm.MethodName)) ∈ zGW := zgw3 (i := 236) rfl rfl
theorem qw_829 : (Jvm.Cond.selects "FreeShelf$Cycles" ({ cls := "FreeShelf$Cycles", name := "lowest", desc := "([II)I" } : Jvm.MethodName) ({ cls := "FreeShelf$Cycles", name := "lowest", desc := "([II)I" } : Jvm.MethodName)) ∈ zGW := zgw3 (i := 237) rfl rfl
theorem qw_830 : (Jvm.Cond.code ({ cls := "FreeShelf$Cycles", name := "lowest", desc := "([II)I" } : Jvm.MethodName) prog_2_method_2_code (5 : Nat) (Option.some Jvm.ClassFile.FieldType.int)) ∈ zGW := zgw3 (i := 238) rfl rfl
theorem qw_831 : (Jvm.Cond.methodLink "FreeShelf$Cycles" (44 : Nat) ({ cls := "java/util/Arrays", name := "fill", desc := "([II)V" } : Jvm.MethodName)) ∈ zGW := zgw3 (i := 239) rfl rfl
theorem qw_832 : (Jvm.Cond.methodLink "FreeShelf$Cycles" (50 : Nat) ({ cls := "FreeShelf$Cycles", name := "discover", desc := "(I)V" } : Jvm.MethodName)) ∈ zGW := zgw4 (i := 0) rfl rfl
theorem qw_834 : (Jvm.Cond.instanceMethod ({ cls := "FreeShelf$Cycles", name := "discover", desc := "(I)V" } : Jvm.MethodName)) ∈ zGW := zgw4 (i := 2) rfl rfl
theorem qw_835 : (Jvm.Cond.code ({ cls := "FreeShelf$Cycles", name := "discover", desc := "(I)V" } : Jvm.MethodName) prog_2_method_3_code (2 : Nat) (Option.none : Option Jvm.ClassFile.FieldType)) ∈ zGW := zgw4 (i := 3) rfl rfl
theorem qw_836 : (Jvm.Cond.methodLink "FreeShelf$Cycles" (54 : Nat) ({ cls := "FreeShelf$Cycles", name := "tryNext", desc := "(II)V" } : Jvm.MethodName)) ∈ zGW := zgw4 (i := 4) rfl rfl
theorem qw_838 : (Jvm.Cond.instanceMethod ({ cls := "FreeShelf$Cycles", name := "tryNext", desc := "(II)V" } : Jvm.MethodName)) ∈ zGW := zgw4 (i := 6) rfl rfl
theorem qw_839 : (Jvm.Cond.code ({ cls := "FreeShelf$Cycles", name := "tryNext", desc := "(II)V" } : Jvm.MethodName) prog_2_method_4_code (3 : Nat) (Option.none : Option Jvm.ClassFile.FieldType)) ∈ zGW := zgw4 (i := 7) rfl rfl
theorem qw_840 : (Jvm.Cond.methodLink "FreeShelf$Cycles" (61 : Nat) ({ cls := "FreeShelf$Cycles", name := "note", desc := "(I)V" } : Jvm.MethodName)) ∈ zGW := zgw4 (i := 8) rfl rfl
theorem qw_842 : (Jvm.Cond.instanceMethod ({ cls := "FreeShelf$Cycles", name := "note", desc := "(I)V" } : Jvm.MethodName)) ∈ zGW := zgw4 (i := 10) rfl rfl
theorem qw_843 : (Jvm.Cond.code ({ cls := "FreeShelf$Cycles", name := "note", desc := "(I)V" } : Jvm.MethodName) prog_2_method_7_code (2 : Nat) (Option.none : Option Jvm.ClassFile.FieldType)) ∈ zGW := zgw4 (i := 11) rfl rfl
theorem qw_844 : (Jvm.Cond.methodLink "FreeShelf$Cycles" (64 : Nat) ({ cls := "java/lang/Math", name := "min", desc := "(II)I" } : Jvm.MethodName)) ∈ zGW := zgw4 (i := 12) rfl rfl
theorem qw_845 : (Jvm.Cond.methodLink "FreeShelf$Cycles" (58 : Nat) ({ cls := "FreeShelf$Cycles", name := "leave", desc := "(I)V" } : Jvm.MethodName)) ∈ zGW := zgw4 (i := 13) rfl rfl
theorem qw_847 : (Jvm.Cond.instanceMethod ({ cls := "FreeShelf$Cycles", name := "leave", desc := "(I)V" } : Jvm.MethodName)) ∈ zGW := zgw4 (i := 15) rfl rfl
theorem qw_848 : (Jvm.Cond.code ({ cls := "FreeShelf$Cycles", name := "leave", desc := "(I)V" } : Jvm.MethodName) prog_2_method_5_code (3 : Nat) (Option.none : Option Jvm.ClassFile.FieldType)) ∈ zGW := zgw4 (i := 16) rfl rfl
theorem qw_849 : (Jvm.Cond.methodLink "FreeShelf$Cycles" (70 : Nat) ({ cls := "FreeShelf$Cycles", name := "close", desc := "(I)V" } : Jvm.MethodName)) ∈ zGW := zgw4 (i := 17) rfl rfl
theorem qw_851 : (Jvm.Cond.instanceMethod ({ cls := "FreeShelf$Cycles", name := "close", desc := "(I)V" } : Jvm.MethodName)) ∈ zGW := zgw4 (i := 19) rfl rfl
theorem qw_852 : (Jvm.Cond.code ({ cls := "FreeShelf$Cycles", name := "close", desc := "(I)V" } : Jvm.MethodName) prog_2_method_6_code (5 : Nat) (Option.none : Option Jvm.ClassFile.FieldType)) ∈ zGW := zgw4 (i := 20) rfl rfl
theorem qw_853 : (Jvm.Cond.methodLink "FreeShelf$Exploration" (167 : Nat) ({ cls := "FreeShelf$Exploration", name := "withMostWaiting", desc := "()I" } : Jvm.MethodName)) ∈ zGW := zgw4 (i := 21) rfl rfl
theorem qw_855 : (Jvm.Cond.instanceMethod ({ cls := "FreeShelf$Exploration", name := "withMostWaiting", desc := "()I" } : Jvm.MethodName)) ∈ zGW := zgw4 (i := 23) rfl rfl
theorem qw_856 : (Jvm.Cond.code ({ cls := "FreeShelf$Exploration", name := "withMostWaiting", desc := "()I" } : Jvm.MethodName) prog_3_method_15_code (2 : Nat) (Option.some Jvm.ClassFile.FieldType.int)) ∈ zGW := zgw4 (i := 24) rfl rfl
theorem qw_861 : (Jvm.Cond.methodLink "FreeShelf" (194 : Nat) ({ cls := "FreeShelf$Exploration", name := "isKept", desc := "(I)Z" } : Jvm.MethodName)) ∈ zGW := zgw4 (i := 29) rfl rfl
theorem qw_862 : (Jvm.Cond.instanceMethod ({ cls := "FreeShelf$Exploration", name := "isKept", desc := "(I)Z" } : Jvm.MethodName)) ∈ zGW := zgw4 (i := 30) rfl rfl
theorem qw_863 : (Jvm.Cond.selects "FreeShelf$Exploration" ({ cls := "FreeShelf$Exploration", name := "isKept", desc := "(I)Z" } : Jvm.MethodName) ({ cls := "FreeShelf$Exploration", name := "isKept", desc := "(I)Z" } : Jvm.MethodName)) ∈ zGW := zgw4 (i := 31) rfl rfl
theorem qw_864 : (Jvm.Cond.code ({ cls := "FreeShelf$Exploration", name := "isKept", desc := "(I)Z" } : Jvm.MethodName) prog_3_method_2_code (2 : Nat) (Option.some Jvm.ClassFile.FieldType.boolean)) ∈ zGW := zgw4 (i := 32) rfl rfl
theorem qw_865 : (Jvm.Cond.methodLink "FreeShelf" (197 : Nat) ({ cls := "FreeShelf$Exploration", name := "choiceOfWalk", desc := "(II)I" } : Jvm.MethodName)) ∈ zGW := zgw4 (i := 33) rfl rfl
theorem qw_866 : (Jvm.Cond.instanceMethod ({ cls := "FreeShelf$Exploration", name := "choiceOfWalk", desc := "(II)I" } : Jvm.MethodName)) ∈ zGW := zgw4 (i := 34) rfl rfl
theorem qw_867 : (Jvm.Cond.selects "FreeShelf$Exploration" ({ cls := "FreeShelf$Exploration", name := "choiceOfWalk", desc := "(II)I" } : Jvm.MethodName) ({ cls := "FreeShelf$Exploration", name := "choiceOfWalk", desc := "(II)I" } : Jvm.MethodName)) ∈ zGW := zgw4 (i := 35) rfl rfl
theorem qw_868 : (Jvm.Cond.code ({ cls := "FreeShelf$Exploration", name := "choiceOfWalk", desc := "(II)I" } : Jvm.MethodName) prog_3_method_19_code (5 : Nat) (Option.some Jvm.ClassFile.FieldType.int)) ∈ zGW := zgw4 (i := 36) rfl rfl
theorem qw_877 : (Jvm.Cond.methodLink "FreeShelf" (209 : Nat) ({ cls := "FreeShelf$Machine", name := "resume", desc := "(LFreeShelf$Program;[II)V" } : Jvm.MethodName)) ∈ zGW := zgw4 (i := 45) rfl rfl
theorem qw_878 : (Jvm.Cond.instanceMethod ({ cls := "FreeShelf$Machine", name := "resume", desc := "(LFreeShelf$Program;[II)V" } : Jvm.MethodName)) ∈ zGW := zgw4 (i := 46) rfl rfl
theorem qw_879 : (Jvm.Cond.selects "FreeShelf$Machine" ({ cls := "FreeShelf$Machine", name := "resume", desc := "(LFreeShelf$Program;[II)V" } : Jvm.MethodName) ({ cls := "FreeShelf$Machine", name := "resume", desc := "(LFreeShelf$Program;[II)V" } : Jvm.MethodName)) ∈ zGW := zgw4 (i := 47) rfl rfl
theorem qw_880 : (Jvm.Cond.code ({ cls := "FreeShelf$Machine", name := "resume", desc := "(LFreeShelf$Program;[II)V" } : Jvm.MethodName) prog_7_method_3_code (4 : Nat) (Option.none : Option Jvm.ClassFile.FieldType)) ∈ zGW := zgw4 (i := 48) rfl rfl
theorem qw_881 : (Jvm.Cond.methodLink "FreeShelf$Machine" (52 : Nat) ({ cls := "java/lang/System", name := "arraycopy", desc := "(Ljava/lang/Object;ILjava/lang/Object;II)V" } : Jvm.MethodName)) ∈ zGW := zgw4 (i := 49) rfl rfl
theorem qw_893 : (Jvm.Cond.fieldLink "FreeShelfModel" (7 : Nat) "FreeShelfModel" "programs" "[I") ∈ zGW := zgw4 (i := 61) rfl rfl
theorem qw_894 : (Jvm.Cond.fieldLink "FreeShelfModel" (13 : Nat) "FreeShelfModel" "p" "[I") ∈ zGW := zgw4 (i := 62) rfl rfl
theorem qw_895 : (Jvm.Cond.fieldLink "FreeShelfModel" (16 : Nat) "FreeShelfModel" "st" "[I") ∈ zGW := zgw4 (i := 63) rfl rfl
theorem qw_896 : (Jvm.Cond.fieldLink "FreeShelfModel" (133 : Nat) "FreeShelfModel" "starting" "Z") ∈ zGW := zgw4 (i := 64) rfl rfl
theorem qw_897 : (Jvm.Cond.fieldLink "FreeShelfModel" (234 : Nat) "FreeShelfModel" "hasEnded" "Z") ∈ zGW := zgw4 (i := 65) rfl rfl
theorem qw_898 : (Jvm.Cond.fieldLink "FreeShelfModel" (170 : Nat) "FreeShelfModel" "ownActs" "I") ∈ zGW := zgw4 (i := 66) rfl rfl
theorem qw_899 : (Jvm.Cond.fieldLink "FreeShelfModel" (19 : Nat) "FreeShelfModel" "pile" "[I") ∈ zGW := zgw4 (i := 67) rfl rfl
theorem qw_900 : (Jvm.Cond.fieldLink "FreeShelfModel" (249 : Nat) "FreeShelfModel" "piled" "I") ∈ zGW := zgw4 (i := 68) rfl rfl
theorem qw_901 : (Jvm.Cond.fieldLink "FreeShelfModel" (258 : Nat) "FreeShelfModel" "taken" "I") ∈ zGW := zgw4 (i := 69) rfl rfl
theorem qw_902 : (Jvm.Cond.fieldLink "FreeShelfModel" (252 : Nat) "FreeShelfModel" "sum" "I") ∈ zGW := zgw4 (i := 70) rfl rfl
theorem qw_903 : (Jvm.Cond.fieldLink "FreeShelfModel" (22 : Nat) "FreeShelfModel" "tried" "[I") ∈ zGW := zgw4 (i := 71) rfl rfl
theorem qw_904 : (Jvm.Cond.fieldLink "FreeShelfModel" (291 : Nat) "FreeShelfModel" "hasRun" "Z") ∈ zGW := zgw4 (i := 72) rfl rfl
theorem qw_905 : (Jvm.Cond.fieldLink "FreeShelfModel" (300 : Nat) "FreeShelfModel" "runMany" "I") ∈ zGW := zgw4 (i := 73) rfl rfl
theorem qw_906 : (Jvm.Cond.fieldLink "FreeShelfModel" (303 : Nat) "FreeShelfModel" "latest" "I") ∈ zGW := zgw4 (i := 74) rfl rfl
theorem qw_907 : (Jvm.Cond.fieldLink "FreeShelfModel" (25 : Nat) "FreeShelfModel" "run" "[I") ∈ zGW := zgw4 (i := 75) rfl rfl
theorem qw_908 : (Jvm.Cond.fieldLink "FreeShelfModel" (331 : Nat) "FreeShelfModel" "explores" "I") ∈ zGW := zgw4 (i := 76) rfl rfl
theorem qw_909 : (Jvm.Cond.fieldLink "FreeShelfModel" (334 : Nat) "FreeShelfModel" "isExplored" "Z") ∈ zGW := zgw4 (i := 77) rfl rfl
theorem qw_910 : (Jvm.Cond.fieldLink "FreeShelfModel" (328 : Nat) "FreeShelfModel" "many" "I") ∈ zGW := zgw4 (i := 78) rfl rfl
theorem qw_911 : (Jvm.Cond.fieldLink "FreeShelfModel" (340 : Nat) "FreeShelfModel" "isSpent" "Z") ∈ zGW := zgw4 (i := 79) rfl rfl
theorem qw_912 : (Jvm.Cond.fieldLink "FreeShelfModel" (337 : Nat) "FreeShelfModel" "ways" "I") ∈ zGW := zgw4 (i := 80) rfl rfl
theorem qw_913 : (Jvm.Cond.fieldLink "FreeShelfModel" (29 : Nat) "FreeShelfModel" "states" "[I") ∈ zGW := zgw4 (i := 81) rfl rfl
theorem qw_914 : (Jvm.Cond.fieldLink "FreeShelfModel" (32 : Nat) "FreeShelfModel" "sums" "[I") ∈ zGW := zgw4 (i := 82) rfl rfl
theorem qw_915 : (Jvm.Cond.fieldLink "FreeShelfModel" (35 : Nat) "FreeShelfModel" "heads" "[I") ∈ zGW := zgw4 (i := 83) rfl rfl
theorem qw_916 : (Jvm.Cond.fieldLink "FreeShelfModel" (38 : Nat) "FreeShelfModel" "chain" "[I") ∈ zGW := zgw4 (i := 84) rfl rfl
theorem qw_917 : (Jvm.Cond.fieldLink "FreeShelfModel" (41 : Nat) "FreeShelfModel" "next" "[I") ∈ zGW := zgw4 (i := 85) rfl rfl
theorem qw_918 : (Jvm.Cond.fieldLink "FreeShelfModel" (44 : Nat) "FreeShelfModel" "ends" "[Z") ∈ zGW := zgw4 (i := 86) rfl rfl
theorem qw_919 : (Jvm.Cond.fieldLink "FreeShelfModel" (48 : Nat) "FreeShelfModel" "from" "[I") ∈ zGW := zgw4 (i := 87) rfl rfl
theorem qw_920 : (Jvm.Cond.fieldLink "FreeShelfModel" (51 : Nat) "FreeShelfModel" "by" "[I") ∈ zGW := zgw4 (i := 88) rfl rfl
theorem qw_921 : (Jvm.Cond.fieldLink "FreeShelfModel" (54 : Nat) "FreeShelfModel" "marks" "[I") ∈ zGW := zgw4 (i := 89) rfl rfl
theorem qw_922 : (Jvm.Cond.fieldLink "FreeShelfModel" (57 : Nat) "FreeShelfModel" "waiting" "[I") ∈ zGW := zgw4 (i := 90) rfl rfl
theorem qw_923 : (Jvm.Cond.fieldLink "FreeShelfModel" (60 : Nat) "FreeShelfModel" "seen" "[Z") ∈ zGW := zgw4 (i := 91) rfl rfl
theorem qw_924 : (Jvm.Cond.fieldLink "FreeShelfModel" (63 : Nat) "FreeShelfModel" "open" "[I") ∈ zGW := zgw4 (i := 92) rfl rfl
theorem qw_994 : (Jvm.Cond.methodLink "FreeShelfModel" (99 : Nat) ({ cls := "FreeShelfModel", name := "isRoutine", desc := "(I)Z" } : Jvm.MethodName)) ∈ zGW := zgw4 (i := 162) rfl rfl
theorem qw_995 : (Jvm.Cond.static ({ cls := "FreeShelfModel", name := "isRoutine", desc := "(I)Z" } : Jvm.MethodName)) ∈ zGW := zgw4 (i := 163) rfl rfl
theorem qw_996 : (Jvm.Cond.code ({ cls := "FreeShelfModel", name := "isRoutine", desc := "(I)Z" } : Jvm.MethodName) prog_11_method_12_code (1 : Nat) (Option.some Jvm.ClassFile.FieldType.boolean)) ∈ zGW := zgw4 (i := 164) rfl rfl
theorem qw_997 : (Jvm.Cond.constantLong "FreeShelfModel" (76 : Nat) (5 : Int64)) ∈ zGW := zgw4 (i := 165) rfl rfl
theorem qw_998 : (Jvm.Cond.methodLink "FreeShelfModel" (68 : Nat) ({ cls := "FreeShelfModel", name := "in", desc := "(JJJ)Z" } : Jvm.MethodName)) ∈ zGW := zgw4 (i := 166) rfl rfl
theorem qw_999 : (Jvm.Cond.static ({ cls := "FreeShelfModel", name := "in", desc := "(JJJ)Z" } : Jvm.MethodName)) ∈ zGW := zgw4 (i := 167) rfl rfl
theorem qw_1000 : (Jvm.Cond.code ({ cls := "FreeShelfModel", name := "in", desc := "(JJJ)Z" } : Jvm.MethodName) prog_11_method_2_code (6 : Nat) (Option.some Jvm.ClassFile.FieldType.boolean)) ∈ zGW := zgw4 (i := 168) rfl rfl
theorem qw_1001 : (Jvm.Cond.methodLink "FreeShelfModel" (102 : Nat) ({ cls := "FreeShelfModel", name := "isAct", desc := "(IIII)Z" } : Jvm.MethodName)) ∈ zGW := zgw4 (i := 169) rfl rfl
theorem qw_1002 : (Jvm.Cond.static ({ cls := "FreeShelfModel", name := "isAct", desc := "(IIII)Z" } : Jvm.MethodName)) ∈ zGW := zgw4 (i := 170) rfl rfl
theorem qw_1003 : (Jvm.Cond.code ({ cls := "FreeShelfModel", name := "isAct", desc := "(IIII)Z" } : Jvm.MethodName) prog_11_method_11_code (4 : Nat) (Option.some Jvm.ClassFile.FieldType.boolean)) ∈ zGW := zgw4 (i := 171) rfl rfl
theorem qw_1004 : (Jvm.Cond.methodLink "FreeShelfModel" (84 : Nat) ({ cls := "FreeShelfModel", name := "isLocal", desc := "(I)Z" } : Jvm.MethodName)) ∈ zGW := zgw4 (i := 172) rfl rfl
theorem qw_1005 : (Jvm.Cond.static ({ cls := "FreeShelfModel", name := "isLocal", desc := "(I)Z" } : Jvm.MethodName)) ∈ zGW := zgw4 (i := 173) rfl rfl
theorem qw_1006 : (Jvm.Cond.code ({ cls := "FreeShelfModel", name := "isLocal", desc := "(I)Z" } : Jvm.MethodName) prog_11_method_7_code (1 : Nat) (Option.some Jvm.ClassFile.FieldType.boolean)) ∈ zGW := zgw4 (i := 174) rfl rfl
theorem qw_1007 : (Jvm.Cond.methodLink "FreeShelfModel" (88 : Nat) ({ cls := "FreeShelfModel", name := "isGlobal", desc := "(I)Z" } : Jvm.MethodName)) ∈ zGW := zgw4 (i := 175) rfl rfl
theorem qw_1008 : (Jvm.Cond.static ({ cls := "FreeShelfModel", name := "isGlobal", desc := "(I)Z" } : Jvm.MethodName)) ∈ zGW := zgw4 (i := 176) rfl rfl
theorem qw_1009 : (Jvm.Cond.code ({ cls := "FreeShelfModel", name := "isGlobal", desc := "(I)Z" } : Jvm.MethodName) prog_11_method_8_code (1 : Nat) (Option.some Jvm.ClassFile.FieldType.boolean)) ∈ zGW := zgw4 (i := 177) rfl rfl
theorem qw_1010 : (Jvm.Cond.constantLong "FreeShelfModel" (78 : Nat) (7 : Int64)) ∈ zGW := zgw4 (i := 178) rfl rfl
theorem qw_1011 : (Jvm.Cond.methodLink "FreeShelfModel" (91 : Nat) ({ cls := "FreeShelfModel", name := "isBit", desc := "(I)Z" } : Jvm.MethodName)) ∈ zGW := zgw4 (i := 179) rfl rfl
theorem qw_1012 : (Jvm.Cond.static ({ cls := "FreeShelfModel", name := "isBit", desc := "(I)Z" } : Jvm.MethodName)) ∈ zGW := zgw4 (i := 180) rfl rfl
theorem qw_1013 : (Jvm.Cond.code ({ cls := "FreeShelfModel", name := "isBit", desc := "(I)Z" } : Jvm.MethodName) prog_11_method_9_code (1 : Nat) (Option.some Jvm.ClassFile.FieldType.boolean)) ∈ zGW := zgw4 (i := 181) rfl rfl
theorem qw_1014 : (Jvm.Cond.methodLink "FreeShelfModel" (94 : Nat) ({ cls := "FreeShelfModel", name := "isNumber", desc := "(I)Z" } : Jvm.MethodName)) ∈ zGW := zgw4 (i := 182) rfl rfl
theorem qw_1015 : (Jvm.Cond.static ({ cls := "FreeShelfModel", name := "isNumber", desc := "(I)Z" } : Jvm.MethodName)) ∈ zGW := zgw4 (i := 183) rfl rfl
theorem qw_1016 : (Jvm.Cond.code ({ cls := "FreeShelfModel", name := "isNumber", desc := "(I)Z" } : Jvm.MethodName) prog_11_method_10_code (1 : Nat) (Option.some Jvm.ClassFile.FieldType.boolean)) ∈ zGW := zgw4 (i := 184) rfl rfl
theorem qw_1017 : (Jvm.Cond.constantLong "FreeShelfModel" (80 : Nat) (-99 : Int64)) ∈ zGW := zgw4 (i := 185) rfl rfl
theorem qw_1018 : (Jvm.Cond.constantLong "FreeShelfModel" (82 : Nat) (99 : Int64)) ∈ zGW := zgw4 (i := 186) rfl rfl
theorem qw_1019 : (Jvm.Cond.constantLong "FreeShelfModel" (97 : Nat) (40 : Int64)) ∈ zGW := zgw4 (i := 187) rfl rfl
theorem qw_1024 : (Jvm.Cond.constantLong "FreeShelfModel" (106 : Nat) (-1 : Int64)) ∈ zGW := zgw4 (i := 192) rfl rfl
theorem qw_1029 : (Jvm.Cond.constantLong "FreeShelfModel" (108 : Nat) (2 : Int64)) ∈ zGW := zgw4 (i := 197) rfl rfl
theorem qw_1034 : (Jvm.Cond.methodLink "FreeShelfModel" (110 : Nat) ({ cls := "FreeShelfModel", name := "hasAct", desc := "(II)Z" } : Jvm.MethodName)) ∈ zGW := zgw4 (i := 202) rfl rfl
theorem qw_1036 : (Jvm.Cond.instanceMethod ({ cls := "FreeShelfModel", name := "hasAct", desc := "(II)Z" } : Jvm.MethodName)) ∈ zGW := zgw4 (i := 204) rfl rfl
theorem qw_1037 : (Jvm.Cond.code ({ cls := "FreeShelfModel", name := "hasAct", desc := "(II)Z" } : Jvm.MethodName) prog_11_method_16_code (3 : Nat) (Option.some Jvm.ClassFile.FieldType.boolean)) ∈ zGW := zgw4 (i := 205) rfl rfl
theorem qw_1042 : (Jvm.Cond.constantLong "FreeShelfModel" (114 : Nat) (3 : Int64)) ∈ zGW := zgw4 (i := 210) rfl rfl
theorem qw_1051 : (Jvm.Cond.constantLong "FreeShelfModel" (116 : Nat) (4 : Int64)) ∈ zGW := zgw4 (i := 219) rfl rfl
theorem qw_1068 : (Jvm.Cond.methodLink "FreeShelfModel" (285 : Nat) ({ cls := "FreeShelfModel", name := "use", desc := "(I)V" } : Jvm.MethodName)) ∈ zGW := zgw4 (i := 236) rfl rfl
theorem qw_1070 : (Jvm.Cond.instanceMethod ({ cls := "FreeShelfModel", name := "use", desc := "(I)V" } : Jvm.MethodName)) ∈ zGW := zgw4 (i := 238) rfl rfl
theorem qw_1071 : (Jvm.Cond.code ({ cls := "FreeShelfModel", name := "use", desc := "(I)V" } : Jvm.MethodName) prog_11_method_3_code (3 : Nat) (Option.none : Option Jvm.ClassFile.FieldType)) ∈ zGW := zgw4 (i := 239) rfl rfl
theorem qw_1072 : (Jvm.Cond.methodLink "FreeShelfModel" (271 : Nat) ({ cls := "FreeShelfModel", name := "callMany", desc := "()I" } : Jvm.MethodName)) ∈ zGW := zgw5 (i := 0) rfl rfl
theorem qw_1074 : (Jvm.Cond.instanceMethod ({ cls := "FreeShelfModel", name := "callMany", desc := "()I" } : Jvm.MethodName)) ∈ zGW := zgw5 (i := 2) rfl rfl
theorem qw_1075 : (Jvm.Cond.code ({ cls := "FreeShelfModel", name := "callMany", desc := "()I" } : Jvm.MethodName) prog_11_method_66_code (1 : Nat) (Option.some Jvm.ClassFile.FieldType.int)) ∈ zGW := zgw5 (i := 3) rfl rfl
theorem qw_1076 : (Jvm.Cond.methodLink "FreeShelfModel" (288 : Nat) ({ cls := "FreeShelfModel", name := "prepared", desc := "()I" } : Jvm.MethodName)) ∈ zGW := zgw5 (i := 4) rfl rfl
theorem qw_1078 : (Jvm.Cond.instanceMethod ({ cls := "FreeShelfModel", name := "prepared", desc := "()I" } : Jvm.MethodName)) ∈ zGW := zgw5 (i := 6) rfl rfl
theorem qw_1079 : (Jvm.Cond.code ({ cls := "FreeShelfModel", name := "prepared", desc := "()I" } : Jvm.MethodName) prog_11_method_62_code (4 : Nat) (Option.some Jvm.ClassFile.FieldType.int)) ∈ zGW := zgw5 (i := 7) rfl rfl
theorem qw_1080 : (Jvm.Cond.methodLink "FreeShelfModel" (246 : Nat) ({ cls := "FreeShelfModel", name := "steps", desc := "(I)V" } : Jvm.MethodName)) ∈ zGW := zgw5 (i := 8) rfl rfl
theorem qw_1082 : (Jvm.Cond.instanceMethod ({ cls := "FreeShelfModel", name := "steps", desc := "(I)V" } : Jvm.MethodName)) ∈ zGW := zgw5 (i := 10) rfl rfl
theorem qw_1083 : (Jvm.Cond.code ({ cls := "FreeShelfModel", name := "steps", desc := "(I)V" } : Jvm.MethodName) prog_11_method_59_code (3 : Nat) (Option.none : Option Jvm.ClassFile.FieldType)) ∈ zGW := zgw5 (i := 11) rfl rfl
theorem qw_1084 : (Jvm.Cond.methodLink "FreeShelfModel" (122 : Nat) ({ cls := "FreeShelfModel", name := "at", desc := "(I)I" } : Jvm.MethodName)) ∈ zGW := zgw5 (i := 12) rfl rfl
theorem qw_1085 : (Jvm.Cond.static ({ cls := "FreeShelfModel", name := "at", desc := "(I)I" } : Jvm.MethodName)) ∈ zGW := zgw5 (i := 13) rfl rfl
theorem qw_1086 : (Jvm.Cond.code ({ cls := "FreeShelfModel", name := "at", desc := "(I)I" } : Jvm.MethodName) prog_11_method_31_code (1 : Nat) (Option.some Jvm.ClassFile.FieldType.int)) ∈ zGW := zgw5 (i := 14) rfl rfl
theorem qw_1087 : (Jvm.Cond.methodLink "FreeShelfModel" (237 : Nat) ({ cls := "FreeShelfModel", name := "begins", desc := "(I)V" } : Jvm.MethodName)) ∈ zGW := zgw5 (i := 15) rfl rfl
theorem qw_1089 : (Jvm.Cond.instanceMethod ({ cls := "FreeShelfModel", name := "begins", desc := "(I)V" } : Jvm.MethodName)) ∈ zGW := zgw5 (i := 17) rfl rfl
theorem qw_1090 : (Jvm.Cond.code ({ cls := "FreeShelfModel", name := "begins", desc := "(I)V" } : Jvm.MethodName) prog_11_method_46_code (6 : Nat) (Option.none : Option Jvm.ClassFile.FieldType)) ∈ zGW := zgw5 (i := 18) rfl rfl
theorem qw_1091 : (Jvm.Cond.methodLink "FreeShelfModel" (147 : Nat) ({ cls := "FreeShelfModel", name := "setLocal", desc := "(III)V" } : Jvm.MethodName)) ∈ zGW := zgw5 (i := 19) rfl rfl
theorem qw_1093 : (Jvm.Cond.instanceMethod ({ cls := "FreeShelfModel", name := "setLocal", desc := "(III)V" } : Jvm.MethodName)) ∈ zGW := zgw5 (i := 21) rfl rfl
theorem qw_1094 : (Jvm.Cond.code ({ cls := "FreeShelfModel", name := "setLocal", desc := "(III)V" } : Jvm.MethodName) prog_11_method_33_code (4 : Nat) (Option.none : Option Jvm.ClassFile.FieldType)) ∈ zGW := zgw5 (i := 22) rfl rfl
theorem qw_1095 : (Jvm.Cond.methodLink "FreeShelfModel" (151 : Nat) ({ cls := "FreeShelfModel", name := "asNumber", desc := "(I)I" } : Jvm.MethodName)) ∈ zGW := zgw5 (i := 23) rfl rfl
theorem qw_1096 : (Jvm.Cond.static ({ cls := "FreeShelfModel", name := "asNumber", desc := "(I)I" } : Jvm.MethodName)) ∈ zGW := zgw5 (i := 24) rfl rfl
theorem qw_1097 : (Jvm.Cond.code ({ cls := "FreeShelfModel", name := "asNumber", desc := "(I)I" } : Jvm.MethodName) prog_11_method_26_code (2 : Nat) (Option.some Jvm.ClassFile.FieldType.int)) ∈ zGW := zgw5 (i := 25) rfl rfl
theorem qw_1098 : (Jvm.Cond.methodLink "FreeShelfModel" (144 : Nat) ({ cls := "FreeShelfModel", name := "routineOf", desc := "(I)I" } : Jvm.MethodName)) ∈ zGW := zgw5 (i := 26) rfl rfl
theorem qw_1100 : (Jvm.Cond.instanceMethod ({ cls := "FreeShelfModel", name := "routineOf", desc := "(I)I" } : Jvm.MethodName)) ∈ zGW := zgw5 (i := 28) rfl rfl
theorem qw_1101 : (Jvm.Cond.code ({ cls := "FreeShelfModel", name := "routineOf", desc := "(I)I" } : Jvm.MethodName) prog_11_method_42_code (2 : Nat) (Option.some Jvm.ClassFile.FieldType.int)) ∈ zGW := zgw5 (i := 29) rfl rfl
theorem qw_1102 : (Jvm.Cond.methodLink "FreeShelfModel" (174 : Nat) ({ cls := "FreeShelfModel", name := "finds", desc := "(II)V" } : Jvm.MethodName)) ∈ zGW := zgw5 (i := 30) rfl rfl
theorem qw_1104 : (Jvm.Cond.instanceMethod ({ cls := "FreeShelfModel", name := "finds", desc := "(II)V" } : Jvm.MethodName)) ∈ zGW := zgw5 (i := 32) rfl rfl
theorem qw_1105 : (Jvm.Cond.code ({ cls := "FreeShelfModel", name := "finds", desc := "(II)V" } : Jvm.MethodName) prog_11_method_45_code (3 : Nat) (Option.none : Option Jvm.ClassFile.FieldType)) ∈ zGW := zgw5 (i := 33) rfl rfl
theorem qw_1106 : (Jvm.Cond.methodLink "FreeShelfModel" (240 : Nat) ({ cls := "FreeShelfModel", name := "owns", desc := "(I)V" } : Jvm.MethodName)) ∈ zGW := zgw5 (i := 34) rfl rfl
theorem qw_1108 : (Jvm.Cond.instanceMethod ({ cls := "FreeShelfModel", name := "owns", desc := "(I)V" } : Jvm.MethodName)) ∈ zGW := zgw5 (i := 36) rfl rfl
theorem qw_1109 : (Jvm.Cond.code ({ cls := "FreeShelfModel", name := "owns", desc := "(I)V" } : Jvm.MethodName) prog_11_method_47_code (2 : Nat) (Option.none : Option Jvm.ClassFile.FieldType)) ∈ zGW := zgw5 (i := 37) rfl rfl
theorem qw_1110 : (Jvm.Cond.methodLink "FreeShelfModel" (154 : Nat) ({ cls := "FreeShelfModel", name := "opAt", desc := "(I)I" } : Jvm.MethodName)) ∈ zGW := zgw5 (i := 38) rfl rfl
theorem qw_1112 : (Jvm.Cond.instanceMethod ({ cls := "FreeShelfModel", name := "opAt", desc := "(I)I" } : Jvm.MethodName)) ∈ zGW := zgw5 (i := 40) rfl rfl
theorem qw_1113 : (Jvm.Cond.code ({ cls := "FreeShelfModel", name := "opAt", desc := "(I)I" } : Jvm.MethodName) prog_11_method_43_code (4 : Nat) (Option.some Jvm.ClassFile.FieldType.int)) ∈ zGW := zgw5 (i := 41) rfl rfl
theorem qw_1114 : (Jvm.Cond.methodLink "FreeShelfModel" (157 : Nat) ({ cls := "FreeShelfModel", name := "isOwn", desc := "(I)Z" } : Jvm.MethodName)) ∈ zGW := zgw5 (i := 42) rfl rfl
theorem qw_1115 : (Jvm.Cond.static ({ cls := "FreeShelfModel", name := "isOwn", desc := "(I)Z" } : Jvm.MethodName)) ∈ zGW := zgw5 (i := 43) rfl rfl
theorem qw_1116 : (Jvm.Cond.code ({ cls := "FreeShelfModel", name := "isOwn", desc := "(I)Z" } : Jvm.MethodName) prog_11_method_6_code (1 : Nat) (Option.some Jvm.ClassFile.FieldType.boolean)) ∈ zGW := zgw5 (i := 44) rfl rfl
theorem qw_1117 : (Jvm.Cond.constantLong "FreeShelfModel" (72 : Nat) (20 : Int64)) ∈ zGW := zgw5 (i := 45) rfl rfl
theorem qw_1118 : (Jvm.Cond.constantLong "FreeShelfModel" (74 : Nat) (26 : Int64)) ∈ zGW := zgw5 (i := 46) rfl rfl
theorem qw_1119 : (Jvm.Cond.methodLink "FreeShelfModel" (160 : Nat) ({ cls := "FreeShelfModel", name := "own", desc := "(I)V" } : Jvm.MethodName)) ∈ zGW := zgw5 (i := 47) rfl rfl
theorem qw_1121 : (Jvm.Cond.instanceMethod ({ cls := "FreeShelfModel", name := "own", desc := "(I)V" } : Jvm.MethodName)) ∈ zGW := zgw5 (i := 49) rfl rfl
theorem qw_1122 : (Jvm.Cond.code ({ cls := "FreeShelfModel", name := "own", desc := "(I)V" } : Jvm.MethodName) prog_11_method_48_code (8 : Nat) (Option.none : Option Jvm.ClassFile.FieldType)) ∈ zGW := zgw5 (i := 50) rfl rfl
theorem qw_1123 : (Jvm.Cond.methodLink "FreeShelfModel" (163 : Nat) ({ cls := "FreeShelfModel", name := "argumentOf", desc := "(II)I" } : Jvm.MethodName)) ∈ zGW := zgw5 (i := 51) rfl rfl
theorem qw_1125 : (Jvm.Cond.instanceMethod ({ cls := "FreeShelfModel", name := "argumentOf", desc := "(II)I" } : Jvm.MethodName)) ∈ zGW := zgw5 (i := 53) rfl rfl
theorem qw_1126 : (Jvm.Cond.code ({ cls := "FreeShelfModel", name := "argumentOf", desc := "(II)I" } : Jvm.MethodName) prog_11_method_44_code (3 : Nat) (Option.some Jvm.ClassFile.FieldType.int)) ∈ zGW := zgw5 (i := 54) rfl rfl
theorem qw_1127 : (Jvm.Cond.methodLink "FreeShelfModel" (167 : Nat) ({ cls := "FreeShelfModel", name := "localOf", desc := "(II)I" } : Jvm.MethodName)) ∈ zGW := zgw5 (i := 55) rfl rfl
theorem qw_1129 : (Jvm.Cond.instanceMethod ({ cls := "FreeShelfModel", name := "localOf", desc := "(II)I" } : Jvm.MethodName)) ∈ zGW := zgw5 (i := 57) rfl rfl
theorem qw_1130 : (Jvm.Cond.code ({ cls := "FreeShelfModel", name := "localOf", desc := "(II)I" } : Jvm.MethodName) prog_11_method_32_code (3 : Nat) (Option.some Jvm.ClassFile.FieldType.int)) ∈ zGW := zgw5 (i := 58) rfl rfl
theorem qw_1131 : (Jvm.Cond.methodLink "FreeShelfModel" (177 : Nat) ({ cls := "FreeShelfModel", name := "alike", desc := "(II)Z" } : Jvm.MethodName)) ∈ zGW := zgw5 (i := 59) rfl rfl
theorem qw_1132 : (Jvm.Cond.static ({ cls := "FreeShelfModel", name := "alike", desc := "(II)Z" } : Jvm.MethodName)) ∈ zGW := zgw5 (i := 60) rfl rfl
theorem qw_1133 : (Jvm.Cond.code ({ cls := "FreeShelfModel", name := "alike", desc := "(II)Z" } : Jvm.MethodName) prog_11_method_28_code (2 : Nat) (Option.some Jvm.ClassFile.FieldType.boolean)) ∈ zGW := zgw5 (i := 61) rfl rfl
theorem qw_1134 : (Jvm.Cond.methodLink "FreeShelfModel" (180 : Nat) ({ cls := "FreeShelfModel", name := "numberOf", desc := "(I)I" } : Jvm.MethodName)) ∈ zGW := zgw5 (i := 62) rfl rfl
theorem qw_1135 : (Jvm.Cond.static ({ cls := "FreeShelfModel", name := "numberOf", desc := "(I)I" } : Jvm.MethodName)) ∈ zGW := zgw5 (i := 63) rfl rfl
theorem qw_1136 : (Jvm.Cond.code ({ cls := "FreeShelfModel", name := "numberOf", desc := "(I)I" } : Jvm.MethodName) prog_11_method_24_code (1 : Nat) (Option.some Jvm.ClassFile.FieldType.int)) ∈ zGW := zgw5 (i := 64) rfl rfl
theorem qw_1137 : (Jvm.Cond.methodLink "FreeShelfModel" (243 : Nat) ({ cls := "FreeShelfModel", name := "memory", desc := "(I)V" } : Jvm.MethodName)) ∈ zGW := zgw5 (i := 65) rfl rfl
theorem qw_1139 : (Jvm.Cond.instanceMethod ({ cls := "FreeShelfModel", name := "memory", desc := "(I)V" } : Jvm.MethodName)) ∈ zGW := zgw5 (i := 67) rfl rfl
theorem qw_1140 : (Jvm.Cond.code ({ cls := "FreeShelfModel", name := "memory", desc := "(I)V" } : Jvm.MethodName) prog_11_method_55_code (7 : Nat) (Option.none : Option Jvm.ClassFile.FieldType)) ∈ zGW := zgw5 (i := 68) rfl rfl
theorem qw_1141 : (Jvm.Cond.methodLink "FreeShelfModel" (198 : Nat) ({ cls := "FreeShelfModel", name := "meets", desc := "(IIII)I" } : Jvm.MethodName)) ∈ zGW := zgw5 (i := 69) rfl rfl
theorem qw_1143 : (Jvm.Cond.instanceMethod ({ cls := "FreeShelfModel", name := "meets", desc := "(IIII)I" } : Jvm.MethodName)) ∈ zGW := zgw5 (i := 71) rfl rfl
theorem qw_1144 : (Jvm.Cond.code ({ cls := "FreeShelfModel", name := "meets", desc := "(IIII)I" } : Jvm.MethodName) prog_11_method_52_code (6 : Nat) (Option.some Jvm.ClassFile.FieldType.int)) ∈ zGW := zgw5 (i := 72) rfl rfl
theorem qw_1145 : (Jvm.Cond.methodLink "FreeShelfModel" (186 : Nat) ({ cls := "FreeShelfModel", name := "flush", desc := "(I)V" } : Jvm.MethodName)) ∈ zGW := zgw5 (i := 73) rfl rfl
theorem qw_1147 : (Jvm.Cond.instanceMethod ({ cls := "FreeShelfModel", name := "flush", desc := "(I)V" } : Jvm.MethodName)) ∈ zGW := zgw5 (i := 75) rfl rfl
theorem qw_1148 : (Jvm.Cond.code ({ cls := "FreeShelfModel", name := "flush", desc := "(I)V" } : Jvm.MethodName) prog_11_method_35_code (2 : Nat) (Option.none : Option Jvm.ClassFile.FieldType)) ∈ zGW := zgw5 (i := 76) rfl rfl
theorem qw_1149 : (Jvm.Cond.methodLink "FreeShelfModel" (129 : Nat) ({ cls := "FreeShelfModel", name := "comes", desc := "(I)V" } : Jvm.MethodName)) ∈ zGW := zgw5 (i := 77) rfl rfl
theorem qw_1151 : (Jvm.Cond.instanceMethod ({ cls := "FreeShelfModel", name := "comes", desc := "(I)V" } : Jvm.MethodName)) ∈ zGW := zgw5 (i := 79) rfl rfl
theorem qw_1152 : (Jvm.Cond.code ({ cls := "FreeShelfModel", name := "comes", desc := "(I)V" } : Jvm.MethodName) prog_11_method_34_code (4 : Nat) (Option.none : Option Jvm.ClassFile.FieldType)) ∈ zGW := zgw5 (i := 80) rfl rfl
theorem qw_1153 : (Jvm.Cond.methodLink "FreeShelfModel" (125 : Nat) ({ cls := "FreeShelfModel", name := "becomes", desc := "(II)V" } : Jvm.MethodName)) ∈ zGW := zgw5 (i := 81) rfl rfl
theorem qw_1155 : (Jvm.Cond.instanceMethod ({ cls := "FreeShelfModel", name := "becomes", desc := "(II)V" } : Jvm.MethodName)) ∈ zGW := zgw5 (i := 83) rfl rfl
theorem qw_1156 : (Jvm.Cond.code ({ cls := "FreeShelfModel", name := "becomes", desc := "(II)V" } : Jvm.MethodName) prog_11_method_30_code (4 : Nat) (Option.none : Option Jvm.ClassFile.FieldType)) ∈ zGW := zgw5 (i := 84) rfl rfl
theorem qw_1157 : (Jvm.Cond.methodLink "FreeShelfModel" (118 : Nat) ({ cls := "FreeShelfModel", name := "countOf", desc := "(I)I" } : Jvm.MethodName)) ∈ zGW := zgw5 (i := 85) rfl rfl
theorem qw_1158 : (Jvm.Cond.static ({ cls := "FreeShelfModel", name := "countOf", desc := "(I)I" } : Jvm.MethodName)) ∈ zGW := zgw5 (i := 86) rfl rfl
theorem qw_1159 : (Jvm.Cond.code ({ cls := "FreeShelfModel", name := "countOf", desc := "(I)I" } : Jvm.MethodName) prog_11_method_29_code (1 : Nat) (Option.some Jvm.ClassFile.FieldType.int)) ∈ zGW := zgw5 (i := 87) rfl rfl
theorem qw_1160 : (Jvm.Cond.methodLink "FreeShelfModel" (189 : Nat) ({ cls := "FreeShelfModel", name := "notNode", desc := "(II)I" } : Jvm.MethodName)) ∈ zGW := zgw5 (i := 88) rfl rfl
theorem qw_1162 : (Jvm.Cond.instanceMethod ({ cls := "FreeShelfModel", name := "notNode", desc := "(II)I" } : Jvm.MethodName)) ∈ zGW := zgw5 (i := 90) rfl rfl
theorem qw_1163 : (Jvm.Cond.code ({ cls := "FreeShelfModel", name := "notNode", desc := "(II)I" } : Jvm.MethodName) prog_11_method_49_code (4 : Nat) (Option.some Jvm.ClassFile.FieldType.int)) ∈ zGW := zgw5 (i := 91) rfl rfl
theorem qw_1164 : (Jvm.Cond.methodLink "FreeShelfModel" (192 : Nat) ({ cls := "FreeShelfModel", name := "isFree", desc := "(II)Z" } : Jvm.MethodName)) ∈ zGW := zgw5 (i := 92) rfl rfl
theorem qw_1166 : (Jvm.Cond.instanceMethod ({ cls := "FreeShelfModel", name := "isFree", desc := "(II)Z" } : Jvm.MethodName)) ∈ zGW := zgw5 (i := 94) rfl rfl
theorem qw_1167 : (Jvm.Cond.code ({ cls := "FreeShelfModel", name := "isFree", desc := "(II)Z" } : Jvm.MethodName) prog_11_method_50_code (3 : Nat) (Option.some Jvm.ClassFile.FieldType.boolean)) ∈ zGW := zgw5 (i := 95) rfl rfl
theorem qw_1168 : (Jvm.Cond.methodLink "FreeShelfModel" (183 : Nat) ({ cls := "FreeShelfModel", name := "nodeOf", desc := "(I)I" } : Jvm.MethodName)) ∈ zGW := zgw5 (i := 96) rfl rfl
theorem qw_1169 : (Jvm.Cond.static ({ cls := "FreeShelfModel", name := "nodeOf", desc := "(I)I" } : Jvm.MethodName)) ∈ zGW := zgw5 (i := 97) rfl rfl
theorem qw_1170 : (Jvm.Cond.code ({ cls := "FreeShelfModel", name := "nodeOf", desc := "(I)I" } : Jvm.MethodName) prog_11_method_25_code (1 : Nat) (Option.some Jvm.ClassFile.FieldType.int)) ∈ zGW := zgw5 (i := 98) rfl rfl
theorem qw_1171 : (Jvm.Cond.methodLink "FreeShelfModel" (202 : Nat) ({ cls := "FreeShelfModel", name := "sees", desc := "(II)I" } : Jvm.MethodName)) ∈ zGW := zgw5 (i := 99) rfl rfl
theorem qw_1173 : (Jvm.Cond.instanceMethod ({ cls := "FreeShelfModel", name := "sees", desc := "(II)I" } : Jvm.MethodName)) ∈ zGW := zgw5 (i := 101) rfl rfl
theorem qw_1174 : (Jvm.Cond.code ({ cls := "FreeShelfModel", name := "sees", desc := "(II)I" } : Jvm.MethodName) prog_11_method_38_code (6 : Nat) (Option.some Jvm.ClassFile.FieldType.int)) ∈ zGW := zgw5 (i := 102) rfl rfl
theorem qw_1175 : (Jvm.Cond.methodLink "FreeShelfModel" (195 : Nat) ({ cls := "FreeShelfModel", name := "happens", desc := "(I)V" } : Jvm.MethodName)) ∈ zGW := zgw5 (i := 103) rfl rfl
theorem qw_1177 : (Jvm.Cond.instanceMethod ({ cls := "FreeShelfModel", name := "happens", desc := "(I)V" } : Jvm.MethodName)) ∈ zGW := zgw5 (i := 105) rfl rfl
theorem qw_1178 : (Jvm.Cond.code ({ cls := "FreeShelfModel", name := "happens", desc := "(I)V" } : Jvm.MethodName) prog_11_method_54_code (7 : Nat) (Option.none : Option Jvm.ClassFile.FieldType)) ∈ zGW := zgw5 (i := 106) rfl rfl
theorem qw_1179 : (Jvm.Cond.methodLink "FreeShelfModel" (205 : Nat) ({ cls := "FreeShelfModel", name := "field", desc := "(III)I" } : Jvm.MethodName)) ∈ zGW := zgw5 (i := 107) rfl rfl
theorem qw_1181 : (Jvm.Cond.instanceMethod ({ cls := "FreeShelfModel", name := "field", desc := "(III)I" } : Jvm.MethodName)) ∈ zGW := zgw5 (i := 109) rfl rfl
theorem qw_1182 : (Jvm.Cond.code ({ cls := "FreeShelfModel", name := "field", desc := "(III)I" } : Jvm.MethodName) prog_11_method_51_code (4 : Nat) (Option.some Jvm.ClassFile.FieldType.int)) ∈ zGW := zgw5 (i := 110) rfl rfl
theorem qw_1183 : (Jvm.Cond.methodLink "FreeShelfModel" (209 : Nat) ({ cls := "FreeShelfModel", name := "writes", desc := "(III)V" } : Jvm.MethodName)) ∈ zGW := zgw5 (i := 111) rfl rfl
theorem qw_1185 : (Jvm.Cond.instanceMethod ({ cls := "FreeShelfModel", name := "writes", desc := "(III)V" } : Jvm.MethodName)) ∈ zGW := zgw5 (i := 113) rfl rfl
theorem qw_1186 : (Jvm.Cond.code ({ cls := "FreeShelfModel", name := "writes", desc := "(III)V" } : Jvm.MethodName) prog_11_method_37_code (5 : Nat) (Option.none : Option Jvm.ClassFile.FieldType)) ∈ zGW := zgw5 (i := 114) rfl rfl
theorem qw_1187 : (Jvm.Cond.methodLink "FreeShelfModel" (137 : Nat) ({ cls := "FreeShelfModel", name := "isLate", desc := "()Z" } : Jvm.MethodName)) ∈ zGW := zgw5 (i := 115) rfl rfl
theorem qw_1189 : (Jvm.Cond.instanceMethod ({ cls := "FreeShelfModel", name := "isLate", desc := "()Z" } : Jvm.MethodName)) ∈ zGW := zgw5 (i := 117) rfl rfl
theorem qw_1190 : (Jvm.Cond.code ({ cls := "FreeShelfModel", name := "isLate", desc := "()Z" } : Jvm.MethodName) prog_11_method_36_code (1 : Nat) (Option.some Jvm.ClassFile.FieldType.boolean)) ∈ zGW := zgw5 (i := 118) rfl rfl
theorem qw_1191 : (Jvm.Cond.methodLink "FreeShelfModel" (212 : Nat) ({ cls := "FreeShelfModel", name := "swaps", desc := "(IIII)V" } : Jvm.MethodName)) ∈ zGW := zgw5 (i := 119) rfl rfl
theorem qw_1193 : (Jvm.Cond.instanceMethod ({ cls := "FreeShelfModel", name := "swaps", desc := "(IIII)V" } : Jvm.MethodName)) ∈ zGW := zgw5 (i := 121) rfl rfl
theorem qw_1194 : (Jvm.Cond.code ({ cls := "FreeShelfModel", name := "swaps", desc := "(IIII)V" } : Jvm.MethodName) prog_11_method_53_code (6 : Nat) (Option.none : Option Jvm.ClassFile.FieldType)) ∈ zGW := zgw5 (i := 122) rfl rfl
theorem qw_1195 : (Jvm.Cond.methodLink "FreeShelfModel" (216 : Nat) ({ cls := "FreeShelfModel", name := "adds", desc := "(III)V" } : Jvm.MethodName)) ∈ zGW := zgw5 (i := 123) rfl rfl
theorem qw_1197 : (Jvm.Cond.instanceMethod ({ cls := "FreeShelfModel", name := "adds", desc := "(III)V" } : Jvm.MethodName)) ∈ zGW := zgw5 (i := 125) rfl rfl
theorem qw_1198 : (Jvm.Cond.code ({ cls := "FreeShelfModel", name := "adds", desc := "(III)V" } : Jvm.MethodName) prog_11_method_56_code (5 : Nat) (Option.none : Option Jvm.ClassFile.FieldType)) ∈ zGW := zgw5 (i := 126) rfl rfl
theorem qw_1199 : (Jvm.Cond.methodLink "FreeShelfModel" (219 : Nat) ({ cls := "FreeShelfModel", name := "other", desc := "(IIII)V" } : Jvm.MethodName)) ∈ zGW := zgw5 (i := 127) rfl rfl
theorem qw_1201 : (Jvm.Cond.instanceMethod ({ cls := "FreeShelfModel", name := "other", desc := "(IIII)V" } : Jvm.MethodName)) ∈ zGW := zgw5 (i := 129) rfl rfl
theorem qw_1202 : (Jvm.Cond.code ({ cls := "FreeShelfModel", name := "other", desc := "(IIII)V" } : Jvm.MethodName) prog_11_method_57_code (7 : Nat) (Option.none : Option Jvm.ClassFile.FieldType)) ∈ zGW := zgw5 (i := 130) rfl rfl
theorem qw_1203 : (Jvm.Cond.methodLink "FreeShelfModel" (222 : Nat) ({ cls := "FreeShelfModel", name := "asNode", desc := "(I)I" } : Jvm.MethodName)) ∈ zGW := zgw5 (i := 131) rfl rfl
theorem qw_1204 : (Jvm.Cond.static ({ cls := "FreeShelfModel", name := "asNode", desc := "(I)I" } : Jvm.MethodName)) ∈ zGW := zgw5 (i := 132) rfl rfl
theorem qw_1205 : (Jvm.Cond.code ({ cls := "FreeShelfModel", name := "asNode", desc := "(I)I" } : Jvm.MethodName) prog_11_method_27_code (1 : Nat) (Option.some Jvm.ClassFile.FieldType.int)) ∈ zGW := zgw5 (i := 133) rfl rfl
theorem qw_1206 : (Jvm.Cond.methodLink "FreeShelfModel" (225 : Nat) ({ cls := "FreeShelfModel", name := "looks", desc := "()V" } : Jvm.MethodName)) ∈ zGW := zgw5 (i := 134) rfl rfl
theorem qw_1208 : (Jvm.Cond.instanceMethod ({ cls := "FreeShelfModel", name := "looks", desc := "()V" } : Jvm.MethodName)) ∈ zGW := zgw5 (i := 136) rfl rfl
theorem qw_1209 : (Jvm.Cond.code ({ cls := "FreeShelfModel", name := "looks", desc := "()V" } : Jvm.MethodName) prog_11_method_40_code (2 : Nat) (Option.none : Option Jvm.ClassFile.FieldType)) ∈ zGW := zgw5 (i := 137) rfl rfl
theorem qw_1210 : (Jvm.Cond.methodLink "FreeShelfModel" (141 : Nat) ({ cls := "FreeShelfModel", name := "isGuarded", desc := "(I)Z" } : Jvm.MethodName)) ∈ zGW := zgw5 (i := 138) rfl rfl
theorem qw_1212 : (Jvm.Cond.instanceMethod ({ cls := "FreeShelfModel", name := "isGuarded", desc := "(I)Z" } : Jvm.MethodName)) ∈ zGW := zgw5 (i := 140) rfl rfl
theorem qw_1213 : (Jvm.Cond.code ({ cls := "FreeShelfModel", name := "isGuarded", desc := "(I)Z" } : Jvm.MethodName) prog_11_method_39_code (4 : Nat) (Option.some Jvm.ClassFile.FieldType.boolean)) ∈ zGW := zgw5 (i := 141) rfl rfl
theorem qw_1214 : (Jvm.Cond.methodLink "FreeShelfModel" (228 : Nat) ({ cls := "FreeShelfModel", name := "epochMoves", desc := "()V" } : Jvm.MethodName)) ∈ zGW := zgw5 (i := 142) rfl rfl
theorem qw_1216 : (Jvm.Cond.instanceMethod ({ cls := "FreeShelfModel", name := "epochMoves", desc := "()V" } : Jvm.MethodName)) ∈ zGW := zgw5 (i := 144) rfl rfl
theorem qw_1217 : (Jvm.Cond.code ({ cls := "FreeShelfModel", name := "epochMoves", desc := "()V" } : Jvm.MethodName) prog_11_method_41_code (4 : Nat) (Option.none : Option Jvm.ClassFile.FieldType)) ∈ zGW := zgw5 (i := 145) rfl rfl
theorem qw_1218 : (Jvm.Cond.methodLink "FreeShelfModel" (231 : Nat) ({ cls := "FreeShelfModel", name := "returns", desc := "(II)V" } : Jvm.MethodName)) ∈ zGW := zgw5 (i := 146) rfl rfl
theorem qw_1220 : (Jvm.Cond.instanceMethod ({ cls := "FreeShelfModel", name := "returns", desc := "(II)V" } : Jvm.MethodName)) ∈ zGW := zgw5 (i := 148) rfl rfl
theorem qw_1221 : (Jvm.Cond.code ({ cls := "FreeShelfModel", name := "returns", desc := "(II)V" } : Jvm.MethodName) prog_11_method_58_code (6 : Nat) (Option.none : Option Jvm.ClassFile.FieldType)) ∈ zGW := zgw5 (i := 149) rfl rfl
theorem qw_1222 : (Jvm.Cond.methodLink "FreeShelfModel" (294 : Nat) ({ cls := "FreeShelfModel", name := "keepProgram", desc := "(I)V" } : Jvm.MethodName)) ∈ zGW := zgw5 (i := 150) rfl rfl
theorem qw_1224 : (Jvm.Cond.instanceMethod ({ cls := "FreeShelfModel", name := "keepProgram", desc := "(I)V" } : Jvm.MethodName)) ∈ zGW := zgw5 (i := 152) rfl rfl
theorem qw_1225 : (Jvm.Cond.code ({ cls := "FreeShelfModel", name := "keepProgram", desc := "(I)V" } : Jvm.MethodName) prog_11_method_4_code (3 : Nat) (Option.none : Option Jvm.ClassFile.FieldType)) ∈ zGW := zgw5 (i := 153) rfl rfl
theorem qw_1226 : (Jvm.Cond.methodLink "FreeShelfModel" (297 : Nat) ({ cls := "FreeShelfModel", name := "keepRun", desc := "()V" } : Jvm.MethodName)) ∈ zGW := zgw5 (i := 154) rfl rfl
theorem qw_1228 : (Jvm.Cond.instanceMethod ({ cls := "FreeShelfModel", name := "keepRun", desc := "()V" } : Jvm.MethodName)) ∈ zGW := zgw5 (i := 156) rfl rfl
theorem qw_1229 : (Jvm.Cond.code ({ cls := "FreeShelfModel", name := "keepRun", desc := "()V" } : Jvm.MethodName) prog_11_method_74_code (2 : Nat) (Option.none : Option Jvm.ClassFile.FieldType)) ∈ zGW := zgw5 (i := 157) rfl rfl
theorem qw_1234 : (Jvm.Cond.methodLink "FreeShelfModel" (306 : Nat) ({ cls := "FreeShelfModel", name := "takeRun", desc := "()V" } : Jvm.MethodName)) ∈ zGW := zgw5 (i := 162) rfl rfl
theorem qw_1236 : (Jvm.Cond.instanceMethod ({ cls := "FreeShelfModel", name := "takeRun", desc := "()V" } : Jvm.MethodName)) ∈ zGW := zgw5 (i := 164) rfl rfl
theorem qw_1237 : (Jvm.Cond.code ({ cls := "FreeShelfModel", name := "takeRun", desc := "()V" } : Jvm.MethodName) prog_11_method_73_code (2 : Nat) (Option.none : Option Jvm.ClassFile.FieldType)) ∈ zGW := zgw5 (i := 165) rfl rfl
theorem qw_1238 : (Jvm.Cond.methodLink "FreeShelfModel" (265 : Nat) ({ cls := "FreeShelfModel", name := "isThere", desc := "(I)Z" } : Jvm.MethodName)) ∈ zGW := zgw5 (i := 166) rfl rfl
theorem qw_1240 : (Jvm.Cond.instanceMethod ({ cls := "FreeShelfModel", name := "isThere", desc := "(I)Z" } : Jvm.MethodName)) ∈ zGW := zgw5 (i := 168) rfl rfl
theorem qw_1241 : (Jvm.Cond.code ({ cls := "FreeShelfModel", name := "isThere", desc := "(I)Z" } : Jvm.MethodName) prog_11_method_60_code (3 : Nat) (Option.some Jvm.ClassFile.FieldType.boolean)) ∈ zGW := zgw5 (i := 169) rfl rfl
theorem qw_1242 : (Jvm.Cond.methodLink "FreeShelfModel" (309 : Nat) ({ cls := "FreeShelfModel", name := "chooses", desc := "(I)V" } : Jvm.MethodName)) ∈ zGW := zgw5 (i := 170) rfl rfl
theorem qw_1244 : (Jvm.Cond.instanceMethod ({ cls := "FreeShelfModel", name := "chooses", desc := "(I)V" } : Jvm.MethodName)) ∈ zGW := zgw5 (i := 172) rfl rfl
theorem qw_1245 : (Jvm.Cond.code ({ cls := "FreeShelfModel", name := "chooses", desc := "(I)V" } : Jvm.MethodName) prog_11_method_61_code (2 : Nat) (Option.none : Option Jvm.ClassFile.FieldType)) ∈ zGW := zgw5 (i := 173) rfl rfl
theorem qw_1254 : (Jvm.Cond.constantLong "FreeShelfModel" (312 : Nat) (100 : Int64)) ∈ zGW := zgw5 (i := 182) rfl rfl
theorem qw_1259 : (Jvm.Cond.constantLong "FreeShelfModel" (314 : Nat) (19 : Int64)) ∈ zGW := zgw5 (i := 187) rfl rfl
theorem qw_1260 : (Jvm.Cond.methodLink "FreeShelfModel" (316 : Nat) ({ cls := "FreeShelfModel", name := "whatOf", desc := "(II)I" } : Jvm.MethodName)) ∈ zGW := zgw5 (i := 188) rfl rfl
theorem qw_1261 : (Jvm.Cond.static ({ cls := "FreeShelfModel", name := "whatOf", desc := "(II)I" } : Jvm.MethodName)) ∈ zGW := zgw5 (i := 189) rfl rfl
theorem qw_1262 : (Jvm.Cond.code ({ cls := "FreeShelfModel", name := "whatOf", desc := "(II)I" } : Jvm.MethodName) prog_11_method_79_code (3 : Nat) (Option.some Jvm.ClassFile.FieldType.int)) ∈ zGW := zgw5 (i := 190) rfl rfl
theorem qw_1287 : (Jvm.Cond.methodLink "FreeShelfModel" (319 : Nat) ({ cls := "FreeShelfModel", name := "isEnd", desc := "()Z" } : Jvm.MethodName)) ∈ zGW := zgw5 (i := 215) rfl rfl
theorem qw_1289 : (Jvm.Cond.instanceMethod ({ cls := "FreeShelfModel", name := "isEnd", desc := "()Z" } : Jvm.MethodName)) ∈ zGW := zgw5 (i := 217) rfl rfl
theorem qw_1290 : (Jvm.Cond.code ({ cls := "FreeShelfModel", name := "isEnd", desc := "()Z" } : Jvm.MethodName) prog_11_method_69_code (3 : Nat) (Option.some Jvm.ClassFile.FieldType.boolean)) ∈ zGW := zgw5 (i := 218) rfl rfl
theorem qw_1291 : (Jvm.Cond.methodLink "FreeShelfModel" (322 : Nat) ({ cls := "FreeShelfModel", name := "agreesNow", desc := "()Z" } : Jvm.MethodName)) ∈ zGW := zgw5 (i := 219) rfl rfl
theorem qw_1293 : (Jvm.Cond.instanceMethod ({ cls := "FreeShelfModel", name := "agreesNow", desc := "()Z" } : Jvm.MethodName)) ∈ zGW := zgw5 (i := 221) rfl rfl
theorem qw_1294 : (Jvm.Cond.code ({ cls := "FreeShelfModel", name := "agreesNow", desc := "()Z" } : Jvm.MethodName) prog_11_method_70_code (6 : Nat) (Option.some Jvm.ClassFile.FieldType.boolean)) ∈ zGW := zgw5 (i := 222) rfl rfl
theorem qw_1295 : (Jvm.Cond.methodLink "FreeShelfModel" (268 : Nat) ({ cls := "FreeShelfModel", name := "hasFinding", desc := "()Z" } : Jvm.MethodName)) ∈ zGW := zgw5 (i := 223) rfl rfl
theorem qw_1297 : (Jvm.Cond.instanceMethod ({ cls := "FreeShelfModel", name := "hasFinding", desc := "()Z" } : Jvm.MethodName)) ∈ zGW := zgw5 (i := 225) rfl rfl
theorem qw_1298 : (Jvm.Cond.code ({ cls := "FreeShelfModel", name := "hasFinding", desc := "()Z" } : Jvm.MethodName) prog_11_method_68_code (1 : Nat) (Option.some Jvm.ClassFile.FieldType.boolean)) ∈ zGW := zgw5 (i := 226) rfl rfl
theorem qw_1299 : (Jvm.Cond.methodLink "FreeShelfModel" (275 : Nat) ({ cls := "FreeShelfModel", name := "mayStand", desc := "(III)Z" } : Jvm.MethodName)) ∈ zGW := zgw5 (i := 227) rfl rfl
theorem qw_1301 : (Jvm.Cond.instanceMethod ({ cls := "FreeShelfModel", name := "mayStand", desc := "(III)Z" } : Jvm.MethodName)) ∈ zGW := zgw5 (i := 229) rfl rfl
theorem qw_1302 : (Jvm.Cond.code ({ cls := "FreeShelfModel", name := "mayStand", desc := "(III)Z" } : Jvm.MethodName) prog_11_method_71_code (5 : Nat) (Option.some Jvm.ClassFile.FieldType.boolean)) ∈ zGW := zgw5 (i := 230) rfl rfl
theorem qw_1303 : (Jvm.Cond.methodLink "FreeShelfModel" (279 : Nat) ({ cls := "FreeShelfModel", name := "isCall", desc := "(I)Z" } : Jvm.MethodName)) ∈ zGW := zgw5 (i := 231) rfl rfl
theorem qw_1305 : (Jvm.Cond.instanceMethod ({ cls := "FreeShelfModel", name := "isCall", desc := "(I)Z" } : Jvm.MethodName)) ∈ zGW := zgw5 (i := 233) rfl rfl
theorem qw_1306 : (Jvm.Cond.code ({ cls := "FreeShelfModel", name := "isCall", desc := "(I)Z" } : Jvm.MethodName) prog_11_method_67_code (2 : Nat) (Option.some Jvm.ClassFile.FieldType.boolean)) ∈ zGW := zgw5 (i := 234) rfl rfl
theorem qw_1307 : (Jvm.Cond.methodLink "FreeShelfModel" (282 : Nat) ({ cls := "FreeShelfModel", name := "fits", desc := "(I)Z" } : Jvm.MethodName)) ∈ zGW := zgw5 (i := 235) rfl rfl
theorem qw_1309 : (Jvm.Cond.instanceMethod ({ cls := "FreeShelfModel", name := "fits", desc := "(I)Z" } : Jvm.MethodName)) ∈ zGW := zgw5 (i := 237) rfl rfl
theorem qw_1310 : (Jvm.Cond.code ({ cls := "FreeShelfModel", name := "fits", desc := "(I)Z" } : Jvm.MethodName) prog_11_method_65_code (6 : Nat) (Option.some Jvm.ClassFile.FieldType.boolean)) ∈ zGW := zgw5 (i := 238) rfl rfl
theorem qw_1311 : (Jvm.Cond.methodLink "FreeShelfModel" (261 : Nat) ({ cls := "FreeShelfModel", name := "says", desc := "(IIIZ)Z" } : Jvm.MethodName)) ∈ zGW := zgw5 (i := 239) rfl rfl
theorem qw_1313 : (Jvm.Cond.instanceMethod ({ cls := "FreeShelfModel", name := "says", desc := "(IIIZ)Z" } : Jvm.MethodName)) ∈ zGW := zgw6 (i := 1) rfl rfl
theorem qw_1314 : (Jvm.Cond.code ({ cls := "FreeShelfModel", name := "says", desc := "(IIIZ)Z" } : Jvm.MethodName) prog_11_method_63_code (9 : Nat) (Option.some Jvm.ClassFile.FieldType.boolean)) ∈ zGW := zgw6 (i := 2) rfl rfl
theorem qw_1315 : (Jvm.Cond.methodLink "FreeShelfModel" (255 : Nat) ({ cls := "FreeShelfModel", name := "takes", desc := "(I)I" } : Jvm.MethodName)) ∈ zGW := zgw6 (i := 3) rfl rfl
theorem qw_1317 : (Jvm.Cond.instanceMethod ({ cls := "FreeShelfModel", name := "takes", desc := "(I)I" } : Jvm.MethodName)) ∈ zGW := zgw6 (i := 5) rfl rfl
theorem qw_1318 : (Jvm.Cond.code ({ cls := "FreeShelfModel", name := "takes", desc := "(I)I" } : Jvm.MethodName) prog_11_method_64_code (2 : Nat) (Option.some Jvm.ClassFile.FieldType.int)) ∈ zGW := zgw6 (i := 6) rfl rfl
theorem qw_1323 : (Jvm.Cond.methodLink "FreeShelfModel" (325 : Nat) ({ cls := "FreeShelfModel", name := "keepsNow", desc := "()Z" } : Jvm.MethodName)) ∈ zGW := zgw6 (i := 11) rfl rfl
theorem qw_1325 : (Jvm.Cond.instanceMethod ({ cls := "FreeShelfModel", name := "keepsNow", desc := "()Z" } : Jvm.MethodName)) ∈ zGW := zgw6 (i := 13) rfl rfl
theorem qw_1326 : (Jvm.Cond.code ({ cls := "FreeShelfModel", name := "keepsNow", desc := "()Z" } : Jvm.MethodName) prog_11_method_72_code (4 : Nat) (Option.some Jvm.ClassFile.FieldType.boolean)) ∈ zGW := zgw6 (i := 14) rfl rfl
theorem qw_1331 : (Jvm.Cond.methodLink "FreeShelfModel" (343 : Nat) ({ cls := "FreeShelfModel", name := "sumNow", desc := "()I" } : Jvm.MethodName)) ∈ zGW := zgw6 (i := 19) rfl rfl
theorem qw_1333 : (Jvm.Cond.instanceMethod ({ cls := "FreeShelfModel", name := "sumNow", desc := "()I" } : Jvm.MethodName)) ∈ zGW := zgw6 (i := 21) rfl rfl
theorem qw_1334 : (Jvm.Cond.code ({ cls := "FreeShelfModel", name := "sumNow", desc := "()I" } : Jvm.MethodName) prog_11_method_89_code (3 : Nat) (Option.some Jvm.ClassFile.FieldType.int)) ∈ zGW := zgw6 (i := 22) rfl rfl
theorem qw_1335 : (Jvm.Cond.methodLink "FreeShelfModel" (346 : Nat) ({ cls := "FreeShelfModel", name := "keep", desc := "(III)V" } : Jvm.MethodName)) ∈ zGW := zgw6 (i := 23) rfl rfl
theorem qw_1337 : (Jvm.Cond.instanceMethod ({ cls := "FreeShelfModel", name := "keep", desc := "(III)V" } : Jvm.MethodName)) ∈ zGW := zgw6 (i := 25) rfl rfl
theorem qw_1338 : (Jvm.Cond.code ({ cls := "FreeShelfModel", name := "keep", desc := "(III)V" } : Jvm.MethodName) prog_11_method_91_code (8 : Nat) (Option.none : Option Jvm.ClassFile.FieldType)) ∈ zGW := zgw6 (i := 26) rfl rfl
theorem qw_1339 : (Jvm.Cond.methodLink "FreeShelfModel" (349 : Nat) ({ cls := "FreeShelfModel", name := "goesOn", desc := "(II)V" } : Jvm.MethodName)) ∈ zGW := zgw6 (i := 27) rfl rfl
theorem qw_1341 : (Jvm.Cond.instanceMethod ({ cls := "FreeShelfModel", name := "goesOn", desc := "(II)V" } : Jvm.MethodName)) ∈ zGW := zgw6 (i := 29) rfl rfl
theorem qw_1342 : (Jvm.Cond.code ({ cls := "FreeShelfModel", name := "goesOn", desc := "(II)V" } : Jvm.MethodName) prog_11_method_93_code (5 : Nat) (Option.none : Option Jvm.ClassFile.FieldType)) ∈ zGW := zgw6 (i := 30) rfl rfl
theorem qw_1343 : (Jvm.Cond.methodLink "FreeShelfModel" (352 : Nat) ({ cls := "FreeShelfModel", name := "load", desc := "(I)V" } : Jvm.MethodName)) ∈ zGW := zgw6 (i := 31) rfl rfl
theorem qw_1345 : (Jvm.Cond.instanceMethod ({ cls := "FreeShelfModel", name := "load", desc := "(I)V" } : Jvm.MethodName)) ∈ zGW := zgw6 (i := 33) rfl rfl
theorem qw_1346 : (Jvm.Cond.code ({ cls := "FreeShelfModel", name := "load", desc := "(I)V" } : Jvm.MethodName) prog_11_method_88_code (3 : Nat) (Option.none : Option Jvm.ClassFile.FieldType)) ∈ zGW := zgw6 (i := 34) rfl rfl
theorem qw_1347 : (Jvm.Cond.methodLink "FreeShelfModel" (355 : Nat) ({ cls := "FreeShelfModel", name := "found", desc := "(I)I" } : Jvm.MethodName)) ∈ zGW := zgw6 (i := 35) rfl rfl
theorem qw_1349 : (Jvm.Cond.instanceMethod ({ cls := "FreeShelfModel", name := "found", desc := "(I)I" } : Jvm.MethodName)) ∈ zGW := zgw6 (i := 37) rfl rfl
theorem qw_1350 : (Jvm.Cond.code ({ cls := "FreeShelfModel", name := "found", desc := "(I)I" } : Jvm.MethodName) prog_11_method_90_code (5 : Nat) (Option.some Jvm.ClassFile.FieldType.int)) ∈ zGW := zgw6 (i := 38) rfl rfl
theorem qw_1355 : (Jvm.Cond.methodLink "FreeShelfModel" (358 : Nat) ({ cls := "FreeShelfModel", name := "marked", desc := "(II)I" } : Jvm.MethodName)) ∈ zGW := zgw6 (i := 43) rfl rfl
theorem qw_1357 : (Jvm.Cond.instanceMethod ({ cls := "FreeShelfModel", name := "marked", desc := "(II)I" } : Jvm.MethodName)) ∈ zGW := zgw6 (i := 45) rfl rfl
theorem qw_1358 : (Jvm.Cond.code ({ cls := "FreeShelfModel", name := "marked", desc := "(II)I" } : Jvm.MethodName) prog_11_method_94_code (5 : Nat) (Option.some Jvm.ClassFile.FieldType.int)) ∈ zGW := zgw6 (i := 46) rfl rfl
theorem qw_1359 : (Jvm.Cond.methodLink "FreeShelfModel" (361 : Nat) ({ cls := "FreeShelfModel", name := "mostWaiting", desc := "()I" } : Jvm.MethodName)) ∈ zGW := zgw6 (i := 47) rfl rfl
theorem qw_1361 : (Jvm.Cond.instanceMethod ({ cls := "FreeShelfModel", name := "mostWaiting", desc := "()I" } : Jvm.MethodName)) ∈ zGW := zgw6 (i := 49) rfl rfl
theorem qw_1362 : (Jvm.Cond.code ({ cls := "FreeShelfModel", name := "mostWaiting", desc := "()I" } : Jvm.MethodName) prog_11_method_95_code (3 : Nat) (Option.some Jvm.ClassFile.FieldType.int)) ∈ zGW := zgw6 (i := 50) rfl rfl
theorem qw_1367 : (Jvm.Cond.methodLink "FreeShelfModel" (370 : Nat) ({ cls := "FreeShelfModel", name := "firstMarked", desc := "(II)I" } : Jvm.MethodName)) ∈ zGW := zgw6 (i := 55) rfl rfl
theorem qw_1369 : (Jvm.Cond.instanceMethod ({ cls := "FreeShelfModel", name := "firstMarked", desc := "(II)I" } : Jvm.MethodName)) ∈ zGW := zgw6 (i := 57) rfl rfl
theorem qw_1370 : (Jvm.Cond.code ({ cls := "FreeShelfModel", name := "firstMarked", desc := "(II)I" } : Jvm.MethodName) prog_11_method_97_code (4 : Nat) (Option.some Jvm.ClassFile.FieldType.int)) ∈ zGW := zgw6 (i := 58) rfl rfl
theorem qw_1371 : (Jvm.Cond.methodLink "FreeShelfModel" (373 : Nat) ({ cls := "FreeShelfModel", name := "firstNotAlone", desc := "()I" } : Jvm.MethodName)) ∈ zGW := zgw6 (i := 59) rfl rfl
theorem qw_1373 : (Jvm.Cond.instanceMethod ({ cls := "FreeShelfModel", name := "firstNotAlone", desc := "()I" } : Jvm.MethodName)) ∈ zGW := zgw6 (i := 61) rfl rfl
theorem qw_1374 : (Jvm.Cond.code ({ cls := "FreeShelfModel", name := "firstNotAlone", desc := "()I" } : Jvm.MethodName) prog_11_method_99_code (2 : Nat) (Option.some Jvm.ClassFile.FieldType.int)) ∈ zGW := zgw6 (i := 62) rfl rfl
theorem qw_1375 : (Jvm.Cond.methodLink "FreeShelfModel" (364 : Nat) ({ cls := "FreeShelfModel", name := "isAlone", desc := "(II)Z" } : Jvm.MethodName)) ∈ zGW := zgw6 (i := 63) rfl rfl
theorem qw_1377 : (Jvm.Cond.instanceMethod ({ cls := "FreeShelfModel", name := "isAlone", desc := "(II)Z" } : Jvm.MethodName)) ∈ zGW := zgw6 (i := 65) rfl rfl
theorem qw_1378 : (Jvm.Cond.code ({ cls := "FreeShelfModel", name := "isAlone", desc := "(II)Z" } : Jvm.MethodName) prog_11_method_98_code (6 : Nat) (Option.some Jvm.ClassFile.FieldType.boolean)) ∈ zGW := zgw6 (i := 66) rfl rfl
theorem qw_1379 : (Jvm.Cond.methodLink "FreeShelfModel" (376 : Nat) ({ cls := "FreeShelfModel", name := "firstInRing", desc := "()I" } : Jvm.MethodName)) ∈ zGW := zgw6 (i := 67) rfl rfl
theorem qw_1381 : (Jvm.Cond.instanceMethod ({ cls := "FreeShelfModel", name := "firstInRing", desc := "()I" } : Jvm.MethodName)) ∈ zGW := zgw6 (i := 69) rfl rfl
theorem qw_1382 : (Jvm.Cond.code ({ cls := "FreeShelfModel", name := "firstInRing", desc := "()I" } : Jvm.MethodName) prog_11_method_101_code (2 : Nat) (Option.some Jvm.ClassFile.FieldType.int)) ∈ zGW := zgw6 (i := 70) rfl rfl
theorem qw_1383 : (Jvm.Cond.methodLink "FreeShelfModel" (367 : Nat) ({ cls := "FreeShelfModel", name := "isInRing", desc := "(I)Z" } : Jvm.MethodName)) ∈ zGW := zgw6 (i := 71) rfl rfl
theorem qw_1385 : (Jvm.Cond.instanceMethod ({ cls := "FreeShelfModel", name := "isInRing", desc := "(I)Z" } : Jvm.MethodName)) ∈ zGW := zgw6 (i := 73) rfl rfl
theorem qw_1386 : (Jvm.Cond.code ({ cls := "FreeShelfModel", name := "isInRing", desc := "(I)Z" } : Jvm.MethodName) prog_11_method_100_code (6 : Nat) (Option.some Jvm.ClassFile.FieldType.boolean)) ∈ zGW := zgw6 (i := 74) rfl rfl
theorem qw_1387 : (Jvm.Cond.methodLink "FreeShelfModel" (379 : Nat) ({ cls := "FreeShelfModel", name := "endAt", desc := "(I)I" } : Jvm.MethodName)) ∈ zGW := zgw6 (i := 75) rfl rfl
theorem qw_1389 : (Jvm.Cond.instanceMethod ({ cls := "FreeShelfModel", name := "endAt", desc := "(I)I" } : Jvm.MethodName)) ∈ zGW := zgw6 (i := 77) rfl rfl
theorem qw_1390 : (Jvm.Cond.code ({ cls := "FreeShelfModel", name := "endAt", desc := "(I)I" } : Jvm.MethodName) prog_11_method_103_code (4 : Nat) (Option.some Jvm.ClassFile.FieldType.int)) ∈ zGW := zgw6 (i := 78) rfl rfl
theorem qw_1395 : (Jvm.Cond.methodLink "FreeShelfModel" (382 : Nat) ({ cls := "FreeShelfModel", name := "isState", desc := "(I)Z" } : Jvm.MethodName)) ∈ zGW := zgw6 (i := 83) rfl rfl
theorem qw_1397 : (Jvm.Cond.instanceMethod ({ cls := "FreeShelfModel", name := "isState", desc := "(I)Z" } : Jvm.MethodName)) ∈ zGW := zgw6 (i := 85) rfl rfl
theorem qw_1398 : (Jvm.Cond.code ({ cls := "FreeShelfModel", name := "isState", desc := "(I)Z" } : Jvm.MethodName) prog_11_method_104_code (2 : Nat) (Option.some Jvm.ClassFile.FieldType.boolean)) ∈ zGW := zgw6 (i := 86) rfl rfl
theorem qw_1399 : (Jvm.Cond.methodLink "FreeShelfModel" (385 : Nat) ({ cls := "FreeShelfModel", name := "lengthOf", desc := "(I)I" } : Jvm.MethodName)) ∈ zGW := zgw6 (i := 87) rfl rfl
theorem qw_1401 : (Jvm.Cond.instanceMethod ({ cls := "FreeShelfModel", name := "lengthOf", desc := "(I)I" } : Jvm.MethodName)) ∈ zGW := zgw6 (i := 89) rfl rfl
theorem qw_1402 : (Jvm.Cond.code ({ cls := "FreeShelfModel", name := "lengthOf", desc := "(I)I" } : Jvm.MethodName) prog_11_method_105_code (4 : Nat) (Option.some Jvm.ClassFile.FieldType.int)) ∈ zGW := zgw6 (i := 90) rfl rfl
theorem qw_1415 : (Jvm.Cond.methodLink "FreeShelfModel" (388 : Nat) ({ cls := "FreeShelfModel", name := "answerAlike", desc := "(II)Z" } : Jvm.MethodName)) ∈ zGW := zgw6 (i := 103) rfl rfl
theorem qw_1417 : (Jvm.Cond.instanceMethod ({ cls := "FreeShelfModel", name := "answerAlike", desc := "(II)Z" } : Jvm.MethodName)) ∈ zGW := zgw6 (i := 105) rfl rfl
theorem qw_1418 : (Jvm.Cond.code ({ cls := "FreeShelfModel", name := "answerAlike", desc := "(II)Z" } : Jvm.MethodName) prog_11_method_109_code (5 : Nat) (Option.some Jvm.ClassFile.FieldType.boolean)) ∈ zGW := zgw6 (i := 106) rfl rfl
theorem uin_X0 : ∀ q ∈ u_ws RX0 TX0 10, q ∈ zGW := fun q h => List.mem_filter.mpr ⟨(show ∀ q ∈ u_ws RX0 TX0 10, q ∈ lw_tbl by decide +kernel) q h, (List.all_eq_true.mp (show (u_ws RX0 TX0 10).all goodWord = true by decide +kernel)) q h⟩
theorem uin_X1 : ∀ q ∈ u_ws RX1 TX1 16, q ∈ zGW := fun q h => List.mem_filter.mpr ⟨(show ∀ q ∈ u_ws RX1 TX1 16, q ∈ lw_tbl by decide +kernel) q h, (List.all_eq_true.mp (show (u_ws RX1 TX1 16).all goodWord = true by decide +kernel)) q h⟩
theorem uin_X3 : ∀ q ∈ u_ws RX3 TX3 1, q ∈ zGW := fun q h => List.mem_filter.mpr ⟨(show ∀ q ∈ u_ws RX3 TX3 1, q ∈ lw_tbl by decide +kernel) q h, (List.all_eq_true.mp (show (u_ws RX3 TX3 1).all goodWord = true by decide +kernel)) q h⟩
theorem uin_X5 : ∀ q ∈ u_ws RX5 TX5 3, q ∈ zGW := fun q h => List.mem_filter.mpr ⟨(show ∀ q ∈ u_ws RX5 TX5 3, q ∈ lw_tbl by decide +kernel) q h, (List.all_eq_true.mp (show (u_ws RX5 TX5 3).all goodWord = true by decide +kernel)) q h⟩
theorem uin_X6 : ∀ q ∈ u_ws RX6 TX6 9, q ∈ zGW := fun q h => List.mem_filter.mpr ⟨(show ∀ q ∈ u_ws RX6 TX6 9, q ∈ lw_tbl by decide +kernel) q h, (List.all_eq_true.mp (show (u_ws RX6 TX6 9).all goodWord = true by decide +kernel)) q h⟩
theorem uin_X8 : ∀ q ∈ u_ws RX8 TX8 8, q ∈ zGW := fun q h => List.mem_filter.mpr ⟨(show ∀ q ∈ u_ws RX8 TX8 8, q ∈ lw_tbl by decide +kernel) q h, (List.all_eq_true.mp (show (u_ws RX8 TX8 8).all goodWord = true by decide +kernel)) q h⟩
theorem uin_X9 : ∀ q ∈ u_ws RX9 TX9 32, q ∈ zGW := fun q h => List.mem_filter.mpr ⟨(show ∀ q ∈ u_ws RX9 TX9 32, q ∈ lw_tbl by decide +kernel) q h, (List.all_eq_true.mp (show (u_ws RX9 TX9 32).all goodWord = true by decide +kernel)) q h⟩
theorem qc_X8_choiceInTurn : Cond.code yX8_choiceInTurn cX8_choiceInTurn 4 (some .int) ∈ zGW := qw_538
theorem nm_X8_choiceInTurn : yX8_choiceInTurn.cls ≠ "java/lang/invoke/MethodHandle" ∧ yX8_choiceInTurn.cls ≠ "java/lang/invoke/VarHandle" ∧ (parseMethodDescriptor yX8_choiceInTurn.desc).map (fun d => d.parameters.length) = some 0 := by decide +kernel
theorem qc_X8_choose : Cond.code yX8_choose cX8_choose 2 none ∈ zGW := qw_522
theorem nm_X8_choose : yX8_choose.cls ≠ "java/lang/invoke/MethodHandle" ∧ yX8_choose.cls ≠ "java/lang/invoke/VarHandle" ∧ (parseMethodDescriptor yX8_choose.desc).map (fun d => d.parameters.length) = some 1 := by decide +kernel
theorem qc_X8_isChoice : Cond.code yX8_isChoice cX8_isChoice 1 (some .boolean) ∈ zGW := qw_514
theorem nm_X8_isChoice : yX8_isChoice.cls ≠ "java/lang/invoke/MethodHandle" ∧ yX8_isChoice.cls ≠ "java/lang/invoke/VarHandle" ∧ (parseMethodDescriptor yX8_isChoice.desc).map (fun d => d.parameters.length) = some 1 := by decide +kernel
theorem qc_X8_isRoutine : Cond.code yX8_isRoutine cX8_isRoutine 1 (some .boolean) ∈ zGW := qw_259
theorem nm_X8_isRoutine : yX8_isRoutine.cls ≠ "java/lang/invoke/MethodHandle" ∧ yX8_isRoutine.cls ≠ "java/lang/invoke/VarHandle" ∧ (parseMethodDescriptor yX8_isRoutine.desc).map (fun d => d.parameters.length) = some 1 := by decide +kernel
theorem qc_X8_isThread : Cond.code yX8_isThread cX8_isThread 1 (some .boolean) ∈ zGW := qw_552
theorem nm_X8_isThread : yX8_isThread.cls ≠ "java/lang/invoke/MethodHandle" ∧ yX8_isThread.cls ≠ "java/lang/invoke/VarHandle" ∧ (parseMethodDescriptor yX8_isThread.desc).map (fun d => d.parameters.length) = some 1 := by decide +kernel
theorem qc_X8_lessOne : Cond.code yX8_lessOne cX8_lessOne 1 (some .int) ∈ zGW := qw_569
theorem nm_X8_lessOne : yX8_lessOne.cls ≠ "java/lang/invoke/MethodHandle" ∧ yX8_lessOne.cls ≠ "java/lang/invoke/VarHandle" ∧ (parseMethodDescriptor yX8_lessOne.desc).map (fun d => d.parameters.length) = some 1 := by decide +kernel
theorem qc_X8_toldOfRoutine : Cond.code yX8_toldOfRoutine cX8_toldOfRoutine 3 (some .int) ∈ zGW := qw_341
theorem nm_X8_toldOfRoutine : yX8_toldOfRoutine.cls ≠ "java/lang/invoke/MethodHandle" ∧ yX8_toldOfRoutine.cls ≠ "java/lang/invoke/VarHandle" ∧ (parseMethodDescriptor yX8_toldOfRoutine.desc).map (fun d => d.parameters.length) = some 2 := by decide +kernel
theorem qc_X8_toldOfThread : Cond.code yX8_toldOfThread cX8_toldOfThread 4 (some .int) ∈ zGW := qw_566
theorem nm_X8_toldOfThread : yX8_toldOfThread.cls ≠ "java/lang/invoke/MethodHandle" ∧ yX8_toldOfThread.cls ≠ "java/lang/invoke/VarHandle" ∧ (parseMethodDescriptor yX8_toldOfThread.desc).map (fun d => d.parameters.length) = some 2 := by decide +kernel
theorem qc_X0_close : Cond.code yX0_close cX0_close 5 none ∈ zGW := qw_852
theorem nm_X0_close : yX0_close.cls ≠ "java/lang/invoke/MethodHandle" ∧ yX0_close.cls ≠ "java/lang/invoke/VarHandle" ∧ (parseMethodDescriptor yX0_close.desc).map (fun d => d.parameters.length) = some 1 := by decide +kernel
theorem qc_X0_discover : Cond.code yX0_discover cX0_discover 2 none ∈ zGW := qw_835
theorem nm_X0_discover : yX0_discover.cls ≠ "java/lang/invoke/MethodHandle" ∧ yX0_discover.cls ≠ "java/lang/invoke/VarHandle" ∧ (parseMethodDescriptor yX0_discover.desc).map (fun d => d.parameters.length) = some 1 := by decide +kernel
theorem qc_X0_leave : Cond.code yX0_leave cX0_leave 3 none ∈ zGW := qw_848
theorem nm_X0_leave : yX0_leave.cls ≠ "java/lang/invoke/MethodHandle" ∧ yX0_leave.cls ≠ "java/lang/invoke/VarHandle" ∧ (parseMethodDescriptor yX0_leave.desc).map (fun d => d.parameters.length) = some 1 := by decide +kernel
theorem qc_X0_lowest : Cond.code yX0_lowest cX0_lowest 5 (some .int) ∈ zGW := qw_830
theorem nm_X0_lowest : yX0_lowest.cls ≠ "java/lang/invoke/MethodHandle" ∧ yX0_lowest.cls ≠ "java/lang/invoke/VarHandle" ∧ (parseMethodDescriptor yX0_lowest.desc).map (fun d => d.parameters.length) = some 2 := by decide +kernel
theorem qc_X0_note : Cond.code yX0_note cX0_note 2 none ∈ zGW := qw_843
theorem nm_X0_note : yX0_note.cls ≠ "java/lang/invoke/MethodHandle" ∧ yX0_note.cls ≠ "java/lang/invoke/VarHandle" ∧ (parseMethodDescriptor yX0_note.desc).map (fun d => d.parameters.length) = some 1 := by decide +kernel
theorem qc_X0_tryNext : Cond.code yX0_tryNext cX0_tryNext 3 none ∈ zGW := qw_839
theorem nm_X0_tryNext : yX0_tryNext.cls ≠ "java/lang/invoke/MethodHandle" ∧ yX0_tryNext.cls ≠ "java/lang/invoke/VarHandle" ∧ (parseMethodDescriptor yX0_tryNext.desc).map (fun d => d.parameters.length) = some 2 := by decide +kernel
theorem qc_X1_choiceOfWalk : Cond.code yX1_choiceOfWalk cX1_choiceOfWalk 5 (some .int) ∈ zGW := qw_868
theorem nm_X1_choiceOfWalk : yX1_choiceOfWalk.cls ≠ "java/lang/invoke/MethodHandle" ∧ yX1_choiceOfWalk.cls ≠ "java/lang/invoke/VarHandle" ∧ (parseMethodDescriptor yX1_choiceOfWalk.desc).map (fun d => d.parameters.length) = some 2 := by decide +kernel
theorem qc_X1_countPairs : Cond.code yX1_countPairs cX1_countPairs 3 (some .int) ∈ zGW := qw_800
theorem nm_X1_countPairs : yX1_countPairs.cls ≠ "java/lang/invoke/MethodHandle" ∧ yX1_countPairs.cls ≠ "java/lang/invoke/VarHandle" ∧ (parseMethodDescriptor yX1_countPairs.desc).map (fun d => d.parameters.length) = some 0 := by decide +kernel
theorem qc_X1_countResults : Cond.code yX1_countResults cX1_countResults 3 (some .int) ∈ zGW := qw_776
theorem nm_X1_countResults : yX1_countResults.cls ≠ "java/lang/invoke/MethodHandle" ∧ yX1_countResults.cls ≠ "java/lang/invoke/VarHandle" ∧ (parseMethodDescriptor yX1_countResults.desc).map (fun d => d.parameters.length) = some 0 := by decide +kernel
theorem qc_X1_countTrait : Cond.code yX1_countTrait cX1_countTrait 4 (some .int) ∈ zGW := qw_796
theorem nm_X1_countTrait : yX1_countTrait.cls ≠ "java/lang/invoke/MethodHandle" ∧ yX1_countTrait.cls ≠ "java/lang/invoke/VarHandle" ∧ (parseMethodDescriptor yX1_countTrait.desc).map (fun d => d.parameters.length) = some 1 := by decide +kernel
theorem qc_X1_describe : Cond.code yX1_describe cX1_describe 5 none ∈ zGW := qw_764
theorem nm_X1_describe : yX1_describe.cls ≠ "java/lang/invoke/MethodHandle" ∧ yX1_describe.cls ≠ "java/lang/invoke/VarHandle" ∧ (parseMethodDescriptor yX1_describe.desc).map (fun d => d.parameters.length) = some 2 := by decide +kernel
theorem qc_X1_figure : Cond.code yX1_figure cX1_figure 2 (some .int) ∈ zGW := qw_792
theorem nm_X1_figure : yX1_figure.cls ≠ "java/lang/invoke/MethodHandle" ∧ yX1_figure.cls ≠ "java/lang/invoke/VarHandle" ∧ (parseMethodDescriptor yX1_figure.desc).map (fun d => d.parameters.length) = some 1 := by decide +kernel
theorem qc_X1_find : Cond.code yX1_find cX1_find 2 (some .int) ∈ zGW := qw_818
theorem nm_X1_find : yX1_find.cls ≠ "java/lang/invoke/MethodHandle" ∧ yX1_find.cls ≠ "java/lang/invoke/VarHandle" ∧ (parseMethodDescriptor yX1_find.desc).map (fun d => d.parameters.length) = some 1 := by decide +kernel
theorem qc_X1_findPlace : Cond.code yX1_findPlace cX1_findPlace 4 (some .int) ∈ zGW := qw_750
theorem nm_X1_findPlace : yX1_findPlace.cls ≠ "java/lang/invoke/MethodHandle" ∧ yX1_findPlace.cls ≠ "java/lang/invoke/VarHandle" ∧ (parseMethodDescriptor yX1_findPlace.desc).map (fun d => d.parameters.length) = some 0 := by decide +kernel
theorem qc_X1_forget : Cond.code yX1_forget cX1_forget 1 none ∈ zGW := qw_741
theorem nm_X1_forget : yX1_forget.cls ≠ "java/lang/invoke/MethodHandle" ∧ yX1_forget.cls ≠ "java/lang/invoke/VarHandle" ∧ (parseMethodDescriptor yX1_forget.desc).map (fun d => d.parameters.length) = some 0 := by decide +kernel
theorem qc_X1_goThrough : Cond.code yX1_goThrough cX1_goThrough 4 none ∈ zGW := qw_737
theorem nm_X1_goThrough : yX1_goThrough.cls ≠ "java/lang/invoke/MethodHandle" ∧ yX1_goThrough.cls ≠ "java/lang/invoke/VarHandle" ∧ (parseMethodDescriptor yX1_goThrough.desc).map (fun d => d.parameters.length) = some 1 := by decide +kernel
theorem qc_X1_hasSameAnswers : Cond.code yX1_hasSameAnswers cX1_hasSameAnswers 5 (some .boolean) ∈ zGW := qw_784
theorem nm_X1_hasSameAnswers : yX1_hasSameAnswers.cls ≠ "java/lang/invoke/MethodHandle" ∧ yX1_hasSameAnswers.cls ≠ "java/lang/invoke/VarHandle" ∧ (parseMethodDescriptor yX1_hasSameAnswers.desc).map (fun d => d.parameters.length) = some 2 := by decide +kernel
theorem qc_X1_isKept : Cond.code yX1_isKept cX1_isKept 2 (some .boolean) ∈ zGW := qw_864
theorem nm_X1_isKept : yX1_isKept.cls ≠ "java/lang/invoke/MethodHandle" ∧ yX1_isKept.cls ≠ "java/lang/invoke/VarHandle" ∧ (parseMethodDescriptor yX1_isKept.desc).map (fun d => d.parameters.length) = some 1 := by decide +kernel
theorem qc_X1_isNewResult : Cond.code yX1_isNewResult cX1_isNewResult 6 (some .boolean) ∈ zGW := qw_780
theorem nm_X1_isNewResult : yX1_isNewResult.cls ≠ "java/lang/invoke/MethodHandle" ∧ yX1_isNewResult.cls ≠ "java/lang/invoke/VarHandle" ∧ (parseMethodDescriptor yX1_isNewResult.desc).map (fun d => d.parameters.length) = some 1 := by decide +kernel
theorem qc_X1_isSame : Cond.code yX1_isSame cX1_isSame 4 (some .boolean) ∈ zGW := qw_755
theorem nm_X1_isSame : yX1_isSame.cls ≠ "java/lang/invoke/MethodHandle" ∧ yX1_isSame.cls ≠ "java/lang/invoke/VarHandle" ∧ (parseMethodDescriptor yX1_isSame.desc).map (fun d => d.parameters.length) = some 1 := by decide +kernel
theorem qc_X1_isWithinCall : Cond.code yX1_isWithinCall cX1_isWithinCall 4 (some .boolean) ∈ zGW := qw_812
theorem nm_X1_isWithinCall : yX1_isWithinCall.cls ≠ "java/lang/invoke/MethodHandle" ∧ yX1_isWithinCall.cls ≠ "java/lang/invoke/VarHandle" ∧ (parseMethodDescriptor yX1_isWithinCall.desc).map (fun d => d.parameters.length) = some 2 := by decide +kernel
theorem qc_X1_keep : Cond.code yX1_keep cX1_keep 4 (some .int) ∈ zGW := qw_746
theorem nm_X1_keep : yX1_keep.cls ≠ "java/lang/invoke/MethodHandle" ∧ yX1_keep.cls ≠ "java/lang/invoke/VarHandle" ∧ (parseMethodDescriptor yX1_keep.desc).map (fun d => d.parameters.length) = some 2 := by decide +kernel
theorem qc_X1_load : Cond.code yX1_load cX1_load 2 none ∈ zGW := qw_760
theorem nm_X1_load : yX1_load.cls ≠ "java/lang/invoke/MethodHandle" ∧ yX1_load.cls ≠ "java/lang/invoke/VarHandle" ∧ (parseMethodDescriptor yX1_load.desc).map (fun d => d.parameters.length) = some 1 := by decide +kernel
theorem qc_X1_stateInCycle : Cond.code yX1_stateInCycle cX1_stateInCycle 1 (some .int) ∈ zGW := qw_826
theorem nm_X1_stateInCycle : yX1_stateInCycle.cls ≠ "java/lang/invoke/MethodHandle" ∧ yX1_stateInCycle.cls ≠ "java/lang/invoke/VarHandle" ∧ (parseMethodDescriptor yX1_stateInCycle.desc).map (fun d => d.parameters.length) = some 0 := by decide +kernel
theorem qc_X1_stuckState : Cond.code yX1_stuckState cX1_stuckState 4 (some .int) ∈ zGW := qw_808
theorem nm_X1_stuckState : yX1_stuckState.cls ≠ "java/lang/invoke/MethodHandle" ∧ yX1_stuckState.cls ≠ "java/lang/invoke/VarHandle" ∧ (parseMethodDescriptor yX1_stuckState.desc).map (fun d => d.parameters.length) = some 0 := by decide +kernel
theorem qc_X1_withMostWaiting : Cond.code yX1_withMostWaiting cX1_withMostWaiting 2 (some .int) ∈ zGW := qw_856
theorem nm_X1_withMostWaiting : yX1_withMostWaiting.cls ≠ "java/lang/invoke/MethodHandle" ∧ yX1_withMostWaiting.cls ≠ "java/lang/invoke/VarHandle" ∧ (parseMethodDescriptor yX1_withMostWaiting.desc).map (fun d => d.parameters.length) = some 0 := by decide +kernel
theorem qc_X1_withTrait : Cond.code yX1_withTrait cX1_withTrait 5 (some .int) ∈ zGW := qw_822
theorem nm_X1_withTrait : yX1_withTrait.cls ≠ "java/lang/invoke/MethodHandle" ∧ yX1_withTrait.cls ≠ "java/lang/invoke/VarHandle" ∧ (parseMethodDescriptor yX1_withTrait.desc).map (fun d => d.parameters.length) = some 2 := by decide +kernel
theorem qc_X2_allows : Cond.code yX2_allows cX2_allows 4 (some .boolean) ∈ zGW := qw_262
theorem nm_X2_allows : yX2_allows.cls ≠ "java/lang/invoke/MethodHandle" ∧ yX2_allows.cls ≠ "java/lang/invoke/VarHandle" ∧ (parseMethodDescriptor yX2_allows.desc).map (fun d => d.parameters.length) = some 4 := by decide +kernel
theorem qc_X2_fits : Cond.code yX2_fits cX2_fits 2 (some .boolean) ∈ zGW := qw_267
theorem nm_X2_fits : yX2_fits.cls ≠ "java/lang/invoke/MethodHandle" ∧ yX2_fits.cls ≠ "java/lang/invoke/VarHandle" ∧ (parseMethodDescriptor yX2_fits.desc).map (fun d => d.parameters.length) = some 2 := by decide +kernel
theorem qc_X3_addTo : Cond.code yX3_addTo cX3_addTo 2 none ∈ zGW := qw_608
theorem nm_X3_addTo : yX3_addTo.cls ≠ "java/lang/invoke/MethodHandle" ∧ yX3_addTo.cls ≠ "java/lang/invoke/VarHandle" ∧ (parseMethodDescriptor yX3_addTo.desc).map (fun d => d.parameters.length) = some 2 := by decide +kernel
theorem qc_X3_canFollow : Cond.code yX3_canFollow cX3_canFollow 3 (some .boolean) ∈ zGW := qw_615
theorem nm_X3_canFollow : yX3_canFollow.cls ≠ "java/lang/invoke/MethodHandle" ∧ yX3_canFollow.cls ≠ "java/lang/invoke/VarHandle" ∧ (parseMethodDescriptor yX3_canFollow.desc).map (fun d => d.parameters.length) = some 3 := by decide +kernel
theorem qc_X3_extendOrder : Cond.code yX3_extendOrder cX3_extendOrder 6 (some .boolean) ∈ zGW := qw_611
theorem nm_X3_extendOrder : yX3_extendOrder.cls ≠ "java/lang/invoke/MethodHandle" ∧ yX3_extendOrder.cls ≠ "java/lang/invoke/VarHandle" ∧ (parseMethodDescriptor yX3_extendOrder.desc).map (fun d => d.parameters.length) = some 4 := by decide +kernel
theorem qc_X3_fillFirstShelf : Cond.code yX3_fillFirstShelf cX3_fillFirstShelf 3 none ∈ zGW := qw_598
theorem nm_X3_fillFirstShelf : yX3_fillFirstShelf.cls ≠ "java/lang/invoke/MethodHandle" ∧ yX3_fillFirstShelf.cls ≠ "java/lang/invoke/VarHandle" ∧ (parseMethodDescriptor yX3_fillFirstShelf.desc).map (fun d => d.parameters.length) = some 1 := by decide +kernel
theorem qc_X3_findsOrder : Cond.code yX3_findsOrder cX3_findsOrder 2 (some .boolean) ∈ zGW := qw_590
theorem nm_X3_findsOrder : yX3_findsOrder.cls ≠ "java/lang/invoke/MethodHandle" ∧ yX3_findsOrder.cls ≠ "java/lang/invoke/VarHandle" ∧ (parseMethodDescriptor yX3_findsOrder.desc).map (fun d => d.parameters.length) = some 1 := by decide +kernel
theorem qc_X3_followsMoments : Cond.code yX3_followsMoments cX3_followsMoments 5 (some .boolean) ∈ zGW := qw_624
theorem nm_X3_followsMoments : yX3_followsMoments.cls ≠ "java/lang/invoke/MethodHandle" ∧ yX3_followsMoments.cls ≠ "java/lang/invoke/VarHandle" ∧ (parseMethodDescriptor yX3_followsMoments.desc).map (fun d => d.parameters.length) = some 1 := by decide +kernel
theorem qc_X3_removeFrom : Cond.code yX3_removeFrom cX3_removeFrom 2 (some .int) ∈ zGW := qw_605
theorem nm_X3_removeFrom : yX3_removeFrom.cls ≠ "java/lang/invoke/MethodHandle" ∧ yX3_removeFrom.cls ≠ "java/lang/invoke/VarHandle" ∧ (parseMethodDescriptor yX3_removeFrom.desc).map (fun d => d.parameters.length) = some 2 := by decide +kernel
theorem qc_X3_serve : Cond.code yX3_serve cX3_serve 6 (some .boolean) ∈ zGW := qw_602
theorem nm_X3_serve : yX3_serve.cls ≠ "java/lang/invoke/MethodHandle" ∧ yX3_serve.cls ≠ "java/lang/invoke/VarHandle" ∧ (parseMethodDescriptor yX3_serve.desc).map (fun d => d.parameters.length) = some 4 := by decide +kernel
theorem qc_X4_ofField : Cond.code yX4_ofField cX4_ofField 2 (some .int) ∈ zGW := qw_448
theorem nm_X4_ofField : yX4_ofField.cls ≠ "java/lang/invoke/MethodHandle" ∧ yX4_ofField.cls ≠ "java/lang/invoke/VarHandle" ∧ (parseMethodDescriptor yX4_ofField.desc).map (fun d => d.parameters.length) = some 2 := by decide +kernel
theorem qc_X4_ofThread : Cond.code yX4_ofThread cX4_ofThread 1 (some .int) ∈ zGW := qw_364
theorem nm_X4_ofThread : yX4_ofThread.cls ≠ "java/lang/invoke/MethodHandle" ∧ yX4_ofThread.cls ≠ "java/lang/invoke/VarHandle" ∧ (parseMethodDescriptor yX4_ofThread.desc).map (fun d => d.parameters.length) = some 1 := by decide +kernel
theorem qc_X5_advance : Cond.code yX5_advance cX5_advance 8 none ∈ zGW := qw_368
theorem nm_X5_advance : yX5_advance.cls ≠ "java/lang/invoke/MethodHandle" ∧ yX5_advance.cls ≠ "java/lang/invoke/VarHandle" ∧ (parseMethodDescriptor yX5_advance.desc).map (fun d => d.parameters.length) = some 1 := by decide +kernel
theorem qc_X5_appends : Cond.code yX5_appends cX5_appends 1 (some .boolean) ∈ zGW := qw_437
theorem nm_X5_appends : yX5_appends.cls ≠ "java/lang/invoke/MethodHandle" ∧ yX5_appends.cls ≠ "java/lang/invoke/VarHandle" ∧ (parseMethodDescriptor yX5_appends.desc).map (fun d => d.parameters.length) = some 1 := by decide +kernel
theorem qc_X5_areAllInPresent : Cond.code yX5_areAllInPresent cX5_areAllInPresent 3 (some .boolean) ∈ zGW := qw_507
theorem nm_X5_areAllInPresent : yX5_areAllInPresent.cls ≠ "java/lang/invoke/MethodHandle" ∧ yX5_areAllInPresent.cls ≠ "java/lang/invoke/VarHandle" ∧ (parseMethodDescriptor yX5_areAllInPresent.desc).map (fun d => d.parameters.length) = some 0 := by decide +kernel
theorem qc_X5_beginCall : Cond.code yX5_beginCall cX5_beginCall 3 none ∈ zGW := qw_372
theorem nm_X5_beginCall : yX5_beginCall.cls ≠ "java/lang/invoke/MethodHandle" ∧ yX5_beginCall.cls ≠ "java/lang/invoke/VarHandle" ∧ (parseMethodDescriptor yX5_beginCall.desc).map (fun d => d.parameters.length) = some 2 := by decide +kernel
theorem qc_X5_callsOver : Cond.code yX5_callsOver cX5_callsOver 4 (some .int) ∈ zGW := qw_383
theorem nm_X5_callsOver : yX5_callsOver.cls ≠ "java/lang/invoke/MethodHandle" ∧ yX5_callsOver.cls ≠ "java/lang/invoke/VarHandle" ∧ (parseMethodDescriptor yX5_callsOver.desc).map (fun d => d.parameters.length) = some 0 := by decide +kernel
theorem qc_X5_canFinish : Cond.code yX5_canFinish cX5_canFinish 5 (some .boolean) ∈ zGW := qw_361
theorem nm_X5_canFinish : yX5_canFinish.cls ≠ "java/lang/invoke/MethodHandle" ∧ yX5_canFinish.cls ≠ "java/lang/invoke/VarHandle" ∧ (parseMethodDescriptor yX5_canFinish.desc).map (fun d => d.parameters.length) = some 1 := by decide +kernel
theorem qc_X5_choose : Cond.code yX5_choose cX5_choose 2 none ∈ zGW := qw_526
theorem nm_X5_choose : yX5_choose.cls ≠ "java/lang/invoke/MethodHandle" ∧ yX5_choose.cls ≠ "java/lang/invoke/VarHandle" ∧ (parseMethodDescriptor yX5_choose.desc).map (fun d => d.parameters.length) = some 1 := by decide +kernel
theorem qc_X5_comeOldest : Cond.code yX5_comeOldest cX5_comeOldest 4 none ∈ zGW := qw_419
theorem nm_X5_comeOldest : yX5_comeOldest.cls ≠ "java/lang/invoke/MethodHandle" ∧ yX5_comeOldest.cls ≠ "java/lang/invoke/VarHandle" ∧ (parseMethodDescriptor yX5_comeOldest.desc).map (fun d => d.parameters.length) = some 1 := by decide +kernel
theorem qc_X5_endCall : Cond.code yX5_endCall cX5_endCall 5 none ∈ zGW := qw_479
theorem nm_X5_endCall : yX5_endCall.cls ≠ "java/lang/invoke/MethodHandle" ∧ yX5_endCall.cls ≠ "java/lang/invoke/VarHandle" ∧ (parseMethodDescriptor yX5_endCall.desc).map (fun d => d.parameters.length) = some 3 := by decide +kernel
theorem qc_X5_freeUnguarded : Cond.code yX5_freeUnguarded cX5_freeUnguarded 2 none ∈ zGW := qw_491
theorem nm_X5_freeUnguarded : yX5_freeUnguarded.cls ≠ "java/lang/invoke/MethodHandle" ∧ yX5_freeUnguarded.cls ≠ "java/lang/invoke/VarHandle" ∧ (parseMethodDescriptor yX5_freeUnguarded.desc).map (fun d => d.parameters.length) = some 0 := by decide +kernel
theorem qc_X5_guardFor : Cond.code yX5_guardFor cX5_guardFor 1 (some .int) ∈ zGW := qw_470
theorem nm_X5_guardFor : yX5_guardFor.cls ≠ "java/lang/invoke/MethodHandle" ∧ yX5_guardFor.cls ≠ "java/lang/invoke/VarHandle" ∧ (parseMethodDescriptor yX5_guardFor.desc).map (fun d => d.parameters.length) = some 1 := by decide +kernel
theorem qc_X5_hasError : Cond.code yX5_hasError cX5_hasError 2 (some .boolean) ∈ zGW := qw_594
theorem nm_X5_hasError : yX5_hasError.cls ≠ "java/lang/invoke/MethodHandle" ∧ yX5_hasError.cls ≠ "java/lang/invoke/VarHandle" ∧ (parseMethodDescriptor yX5_hasError.desc).map (fun d => d.parameters.length) = some 0 := by decide +kernel
theorem qc_X5_isAtEnd : Cond.code yX5_isAtEnd cX5_isAtEnd 2 (some .boolean) ∈ zGW := qw_585
theorem nm_X5_isAtEnd : yX5_isAtEnd.cls ≠ "java/lang/invoke/MethodHandle" ∧ yX5_isAtEnd.cls ≠ "java/lang/invoke/VarHandle" ∧ (parseMethodDescriptor yX5_isAtEnd.desc).map (fun d => d.parameters.length) = some 0 := by decide +kernel
theorem qc_X5_isGuarded : Cond.code yX5_isGuarded cX5_isGuarded 4 (some .boolean) ∈ zGW := qw_495
theorem nm_X5_isGuarded : yX5_isGuarded.cls ≠ "java/lang/invoke/MethodHandle" ∧ yX5_isGuarded.cls ≠ "java/lang/invoke/VarHandle" ∧ (parseMethodDescriptor yX5_isGuarded.desc).map (fun d => d.parameters.length) = some 1 := by decide +kernel
theorem qc_X5_isPossible : Cond.code yX5_isPossible cX5_isPossible 3 (some .boolean) ∈ zGW := qw_518
theorem nm_X5_isPossible : yX5_isPossible.cls ≠ "java/lang/invoke/MethodHandle" ∧ yX5_isPossible.cls ≠ "java/lang/invoke/VarHandle" ∧ (parseMethodDescriptor yX5_isPossible.desc).map (fun d => d.parameters.length) = some 1 := by decide +kernel
theorem qc_X5_letComeUntil : Cond.code yX5_letComeUntil cX5_letComeUntil 4 none ∈ zGW := qw_415
theorem nm_X5_letComeUntil : yX5_letComeUntil.cls ≠ "java/lang/invoke/MethodHandle" ∧ yX5_letComeUntil.cls ≠ "java/lang/invoke/VarHandle" ∧ (parseMethodDescriptor yX5_letComeUntil.desc).map (fun d => d.parameters.length) = some 2 := by decide +kernel
theorem qc_X5_memoryError : Cond.code yX5_memoryError cX5_memoryError 4 (some .int) ∈ zGW := qw_427
theorem nm_X5_memoryError : yX5_memoryError.cls ≠ "java/lang/invoke/MethodHandle" ∧ yX5_memoryError.cls ≠ "java/lang/invoke/VarHandle" ∧ (parseMethodDescriptor yX5_memoryError.desc).map (fun d => d.parameters.length) = some 2 := by decide +kernel
theorem qc_X5_nodeError : Cond.code yX5_nodeError cX5_nodeError 5 (some .int) ∈ zGW := qw_431
theorem nm_X5_nodeError : yX5_nodeError.cls ≠ "java/lang/invoke/MethodHandle" ∧ yX5_nodeError.cls ≠ "java/lang/invoke/VarHandle" ∧ (parseMethodDescriptor yX5_nodeError.desc).map (fun d => d.parameters.length) = some 2 := by decide +kernel
theorem qc_X5_noteMoment : Cond.code yX5_noteMoment cX5_noteMoment 9 none ∈ zGW := qw_483
theorem nm_X5_noteMoment : yX5_noteMoment.cls ≠ "java/lang/invoke/MethodHandle" ∧ yX5_noteMoment.cls ≠ "java/lang/invoke/VarHandle" ∧ (parseMethodDescriptor yX5_noteMoment.desc).map (fun d => d.parameters.length) = some 3 := by decide +kernel
theorem qc_X5_ownAct : Cond.code yX5_ownAct cX5_ownAct 5 none ∈ zGW := qw_399
theorem nm_X5_ownAct : yX5_ownAct.cls ≠ "java/lang/invoke/MethodHandle" ∧ yX5_ownAct.cls ≠ "java/lang/invoke/VarHandle" ∧ (parseMethodDescriptor yX5_ownAct.desc).map (fun d => d.parameters.length) = some 2 := by decide +kernel
theorem qc_X5_ownActs : Cond.code yX5_ownActs cX5_ownActs 7 (some .int) ∈ zGW := qw_387
theorem nm_X5_ownActs : yX5_ownActs.cls ≠ "java/lang/invoke/MethodHandle" ∧ yX5_ownActs.cls ≠ "java/lang/invoke/VarHandle" ∧ (parseMethodDescriptor yX5_ownActs.desc).map (fun d => d.parameters.length) = some 3 := by decide +kernel
theorem qc_X5_ownError : Cond.code yX5_ownError cX5_ownError 5 (some .int) ∈ zGW := qw_392
theorem nm_X5_ownError : yX5_ownError.cls ≠ "java/lang/invoke/MethodHandle" ∧ yX5_ownError.cls ≠ "java/lang/invoke/VarHandle" ∧ (parseMethodDescriptor yX5_ownError.desc).map (fun d => d.parameters.length) = some 3 := by decide +kernel
theorem qc_X5_perform : Cond.code yX5_perform cX5_perform 7 none ∈ zGW := qw_441
theorem nm_X5_perform : yX5_perform.cls ≠ "java/lang/invoke/MethodHandle" ∧ yX5_perform.cls ≠ "java/lang/invoke/VarHandle" ∧ (parseMethodDescriptor yX5_perform.desc).map (fun d => d.parameters.length) = some 3 := by decide +kernel
theorem qc_X5_release : Cond.code yX5_release cX5_release 3 none ∈ zGW := qw_467
theorem nm_X5_release : yX5_release.cls ≠ "java/lang/invoke/MethodHandle" ∧ yX5_release.cls ≠ "java/lang/invoke/VarHandle" ∧ (parseMethodDescriptor yX5_release.desc).map (fun d => d.parameters.length) = some 1 := by decide +kernel
theorem qc_X5_resume : Cond.code yX5_resume cX5_resume 4 none ∈ zGW := qw_880
theorem nm_X5_resume : yX5_resume.cls ≠ "java/lang/invoke/MethodHandle" ∧ yX5_resume.cls ≠ "java/lang/invoke/VarHandle" ∧ (parseMethodDescriptor yX5_resume.desc).map (fun d => d.parameters.length) = some 3 := by decide +kernel
theorem qc_X5_seen : Cond.code yX5_seen cX5_seen 6 (some .int) ∈ zGW := qw_445
theorem nm_X5_seen : yX5_seen.cls ≠ "java/lang/invoke/MethodHandle" ∧ yX5_seen.cls ≠ "java/lang/invoke/VarHandle" ∧ (parseMethodDescriptor yX5_seen.desc).map (fun d => d.parameters.length) = some 2 := by decide +kernel
theorem qc_X5_settle : Cond.code yX5_settle cX5_settle 3 none ∈ zGW := qw_487
theorem nm_X5_settle : yX5_settle.cls ≠ "java/lang/invoke/MethodHandle" ∧ yX5_settle.cls ≠ "java/lang/invoke/VarHandle" ∧ (parseMethodDescriptor yX5_settle.desc).map (fun d => d.parameters.length) = some 1 := by decide +kernel
theorem qc_X5_start : Cond.code yX5_start cX5_start 4 (some .int) ∈ zGW := qw_349
theorem nm_X5_start : yX5_start.cls ≠ "java/lang/invoke/MethodHandle" ∧ yX5_start.cls ≠ "java/lang/invoke/VarHandle" ∧ (parseMethodDescriptor yX5_start.desc).map (fun d => d.parameters.length) = some 1 := by decide +kernel
theorem qc_X5_store : Cond.code yX5_store cX5_store 4 none ∈ zGW := qw_423
theorem nm_X5_store : yX5_store.cls ≠ "java/lang/invoke/MethodHandle" ∧ yX5_store.cls ≠ "java/lang/invoke/VarHandle" ∧ (parseMethodDescriptor yX5_store.desc).map (fun d => d.parameters.length) = some 2 := by decide +kernel
theorem qc_X5_swap : Cond.code yX5_swap cX5_swap 6 none ∈ zGW := qw_456
theorem nm_X5_swap : yX5_swap.cls ≠ "java/lang/invoke/MethodHandle" ∧ yX5_swap.cls ≠ "java/lang/invoke/VarHandle" ∧ (parseMethodDescriptor yX5_swap.desc).map (fun d => d.parameters.length) = some 4 := by decide +kernel
theorem qc_X5_takeNode : Cond.code yX5_takeNode cX5_takeNode 2 (some .int) ∈ zGW := qw_460
theorem nm_X5_takeNode : yX5_takeNode.cls ≠ "java/lang/invoke/MethodHandle" ∧ yX5_takeNode.cls ≠ "java/lang/invoke/VarHandle" ∧ (parseMethodDescriptor yX5_takeNode.desc).map (fun d => d.parameters.length) = some 0 := by decide +kernel
theorem qc_X5_turnEpoch : Cond.code yX5_turnEpoch cX5_turnEpoch 5 none ∈ zGW := qw_499
theorem nm_X5_turnEpoch : yX5_turnEpoch.cls ≠ "java/lang/invoke/MethodHandle" ∧ yX5_turnEpoch.cls ≠ "java/lang/invoke/VarHandle" ∧ (parseMethodDescriptor yX5_turnEpoch.desc).map (fun d => d.parameters.length) = some 0 := by decide +kernel
theorem qc_X5_waitingNodes : Cond.code yX5_waitingNodes cX5_waitingNodes 3 (some .int) ∈ zGW := qw_503
theorem nm_X5_waitingNodes : yX5_waitingNodes.cls ≠ "java/lang/invoke/MethodHandle" ∧ yX5_waitingNodes.cls ≠ "java/lang/invoke/VarHandle" ∧ (parseMethodDescriptor yX5_waitingNodes.desc).map (fun d => d.parameters.length) = some 0 := by decide +kernel
theorem qc_X5_waitsForWrites : Cond.code yX5_waitsForWrites cX5_waitsForWrites 1 (some .boolean) ∈ zGW := qw_411
theorem nm_X5_waitsForWrites : yX5_waitsForWrites.cls ≠ "java/lang/invoke/MethodHandle" ∧ yX5_waitsForWrites.cls ≠ "java/lang/invoke/VarHandle" ∧ (parseMethodDescriptor yX5_waitsForWrites.desc).map (fun d => d.parameters.length) = some 1 := by decide +kernel
theorem qc_X5_write : Cond.code yX5_write cX5_write 4 none ∈ zGW := qw_452
theorem nm_X5_write : yX5_write.cls ≠ "java/lang/invoke/MethodHandle" ∧ yX5_write.cls ≠ "java/lang/invoke/VarHandle" ∧ (parseMethodDescriptor yX5_write.desc).map (fun d => d.parameters.length) = some 3 := by decide +kernel
theorem qc_X6_addCall : Cond.code yX6_addCall cX6_addCall 5 (some .int) ∈ zGW := qw_315
theorem nm_X6_addCall : yX6_addCall.cls ≠ "java/lang/invoke/MethodHandle" ∧ yX6_addCall.cls ≠ "java/lang/invoke/VarHandle" ∧ (parseMethodDescriptor yX6_addCall.desc).map (fun d => d.parameters.length) = some 3 := by decide +kernel
theorem qc_X6_append : Cond.code yX6_append cX6_append 8 (some .int) ∈ zGW := qw_282
theorem nm_X6_append : yX6_append.cls ≠ "java/lang/invoke/MethodHandle" ∧ yX6_append.cls ≠ "java/lang/invoke/VarHandle" ∧ (parseMethodDescriptor yX6_append.desc).map (fun d => d.parameters.length) = some 5 := by decide +kernel
theorem qc_X6_copyFrom : Cond.code yX6_copyFrom cX6_copyFrom 2 none ∈ zGW := qw_353
theorem nm_X6_copyFrom : yX6_copyFrom.cls ≠ "java/lang/invoke/MethodHandle" ∧ yX6_copyFrom.cls ≠ "java/lang/invoke/VarHandle" ∧ (parseMethodDescriptor yX6_copyFrom.desc).map (fun d => d.parameters.length) = some 1 := by decide +kernel
theorem qc_X6_find : Cond.code yX6_find cX6_find 3 (some .int) ∈ zGW := qw_299
theorem nm_X6_find : yX6_find.cls ≠ "java/lang/invoke/MethodHandle" ∧ yX6_find.cls ≠ "java/lang/invoke/VarHandle" ∧ (parseMethodDescriptor yX6_find.desc).map (fun d => d.parameters.length) = some 2 := by decide +kernel
theorem qc_X6_isFullFor : Cond.code yX6_isFullFor cX6_isFullFor 2 (some .boolean) ∈ zGW := qw_307
theorem nm_X6_isFullFor : yX6_isFullFor.cls ≠ "java/lang/invoke/MethodHandle" ∧ yX6_isFullFor.cls ≠ "java/lang/invoke/VarHandle" ∧ (parseMethodDescriptor yX6_isFullFor.desc).map (fun d => d.parameters.length) = some 1 := by decide +kernel
theorem qc_X6_size : Cond.code yX6_size cX6_size 2 (some .int) ∈ zGW := qw_275
theorem nm_X6_size : yX6_size.cls ≠ "java/lang/invoke/MethodHandle" ∧ yX6_size.cls ≠ "java/lang/invoke/VarHandle" ∧ (parseMethodDescriptor yX6_size.desc).map (fun d => d.parameters.length) = some 1 := by decide +kernel
theorem qc_X6_total : Cond.code yX6_total cX6_total 1 (some .int) ∈ zGW := qw_311
theorem nm_X6_total : yX6_total.cls ≠ "java/lang/invoke/MethodHandle" ∧ yX6_total.cls ≠ "java/lang/invoke/VarHandle" ∧ (parseMethodDescriptor yX6_total.desc).map (fun d => d.parameters.length) = some 0 := by decide +kernel
theorem qc_X7_amount : Cond.code yX7_amount cX7_amount 1 (some .int) ∈ zGW := qw_408
theorem nm_X7_amount : yX7_amount.cls ≠ "java/lang/invoke/MethodHandle" ∧ yX7_amount.cls ≠ "java/lang/invoke/VarHandle" ∧ (parseMethodDescriptor yX7_amount.desc).map (fun d => d.parameters.length) = some 1 := by decide +kernel
theorem qc_X7_answerFrom : Cond.code yX7_answerFrom cX7_answerFrom 1 (some .int) ∈ zGW := qw_473
theorem nm_X7_answerFrom : yX7_answerFrom.cls ≠ "java/lang/invoke/MethodHandle" ∧ yX7_answerFrom.cls ≠ "java/lang/invoke/VarHandle" ∧ (parseMethodDescriptor yX7_answerFrom.desc).map (fun d => d.parameters.length) = some 1 := by decide +kernel
theorem qc_X7_areAlike : Cond.code yX7_areAlike cX7_areAlike 2 (some .boolean) ∈ zGW := qw_405
theorem nm_X7_areAlike : yX7_areAlike.cls ≠ "java/lang/invoke/MethodHandle" ∧ yX7_areAlike.cls ≠ "java/lang/invoke/VarHandle" ∧ (parseMethodDescriptor yX7_areAlike.desc).map (fun d => d.parameters.length) = some 2 := by decide +kernel
theorem qc_X7_kind : Cond.code yX7_kind cX7_kind 1 (some .int) ∈ zGW := qw_434
theorem nm_X7_kind : yX7_kind.cls ≠ "java/lang/invoke/MethodHandle" ∧ yX7_kind.cls ≠ "java/lang/invoke/VarHandle" ∧ (parseMethodDescriptor yX7_kind.desc).map (fun d => d.parameters.length) = some 1 := by decide +kernel
theorem qc_X7_lack : Cond.code yX7_lack cX7_lack 3 (some .int) ∈ zGW := qw_395
theorem nm_X7_lack : yX7_lack.cls ≠ "java/lang/invoke/MethodHandle" ∧ yX7_lack.cls ≠ "java/lang/invoke/VarHandle" ∧ (parseMethodDescriptor yX7_lack.desc).map (fun d => d.parameters.length) = some 2 := by decide +kernel
theorem qc_X7_marked : Cond.code yX7_marked cX7_marked 2 (some .int) ∈ zGW := qw_402
theorem nm_X7_marked : yX7_marked.cls ≠ "java/lang/invoke/MethodHandle" ∧ yX7_marked.cls ≠ "java/lang/invoke/VarHandle" ∧ (parseMethodDescriptor yX7_marked.desc).map (fun d => d.parameters.length) = some 2 := by decide +kernel
theorem qc_X7_ofNode : Cond.code yX7_ofNode cX7_ofNode 1 (some .int) ∈ zGW := qw_463
theorem nm_X7_ofNode : yX7_ofNode.cls ≠ "java/lang/invoke/MethodHandle" ∧ yX7_ofNode.cls ≠ "java/lang/invoke/VarHandle" ∧ (parseMethodDescriptor yX7_ofNode.desc).map (fun d => d.parameters.length) = some 1 := by decide +kernel
theorem qc_X7_ofNumber : Cond.code yX7_ofNumber cX7_ofNumber 1 (some .int) ∈ zGW := qw_375
theorem nm_X7_ofNumber : yX7_ofNumber.cls ≠ "java/lang/invoke/MethodHandle" ∧ yX7_ofNumber.cls ≠ "java/lang/invoke/VarHandle" ∧ (parseMethodDescriptor yX7_ofNumber.desc).map (fun d => d.parameters.length) = some 1 := by decide +kernel
theorem qc_X7_part : Cond.code yX7_part cX7_part 2 (some .int) ∈ zGW := qw_545
theorem nm_X7_part : yX7_part.cls ≠ "java/lang/invoke/MethodHandle" ∧ yX7_part.cls ≠ "java/lang/invoke/VarHandle" ∧ (parseMethodDescriptor yX7_part.desc).map (fun d => d.parameters.length) = some 2 := by decide +kernel
theorem qc_X9_adds : Cond.code yX9_adds cX9_adds 5 none ∈ zGW := qw_1198
theorem nm_X9_adds : yX9_adds.cls ≠ "java/lang/invoke/MethodHandle" ∧ yX9_adds.cls ≠ "java/lang/invoke/VarHandle" ∧ (parseMethodDescriptor yX9_adds.desc).map (fun d => d.parameters.length) = some 3 := by decide +kernel
theorem qc_X9_agreesNow : Cond.code yX9_agreesNow cX9_agreesNow 6 (some .boolean) ∈ zGW := qw_1294
theorem nm_X9_agreesNow : yX9_agreesNow.cls ≠ "java/lang/invoke/MethodHandle" ∧ yX9_agreesNow.cls ≠ "java/lang/invoke/VarHandle" ∧ (parseMethodDescriptor yX9_agreesNow.desc).map (fun d => d.parameters.length) = some 0 := by decide +kernel
theorem qc_X9_alike : Cond.code yX9_alike cX9_alike 2 (some .boolean) ∈ zGW := qw_1133
theorem nm_X9_alike : yX9_alike.cls ≠ "java/lang/invoke/MethodHandle" ∧ yX9_alike.cls ≠ "java/lang/invoke/VarHandle" ∧ (parseMethodDescriptor yX9_alike.desc).map (fun d => d.parameters.length) = some 2 := by decide +kernel
theorem qc_X9_answerAlike : Cond.code yX9_answerAlike cX9_answerAlike 5 (some .boolean) ∈ zGW := qw_1418
theorem nm_X9_answerAlike : yX9_answerAlike.cls ≠ "java/lang/invoke/MethodHandle" ∧ yX9_answerAlike.cls ≠ "java/lang/invoke/VarHandle" ∧ (parseMethodDescriptor yX9_answerAlike.desc).map (fun d => d.parameters.length) = some 2 := by decide +kernel
theorem qc_X9_argumentOf : Cond.code yX9_argumentOf cX9_argumentOf 3 (some .int) ∈ zGW := qw_1126
theorem nm_X9_argumentOf : yX9_argumentOf.cls ≠ "java/lang/invoke/MethodHandle" ∧ yX9_argumentOf.cls ≠ "java/lang/invoke/VarHandle" ∧ (parseMethodDescriptor yX9_argumentOf.desc).map (fun d => d.parameters.length) = some 2 := by decide +kernel
theorem qc_X9_asNode : Cond.code yX9_asNode cX9_asNode 1 (some .int) ∈ zGW := qw_1205
theorem nm_X9_asNode : yX9_asNode.cls ≠ "java/lang/invoke/MethodHandle" ∧ yX9_asNode.cls ≠ "java/lang/invoke/VarHandle" ∧ (parseMethodDescriptor yX9_asNode.desc).map (fun d => d.parameters.length) = some 1 := by decide +kernel
theorem qc_X9_asNumber : Cond.code yX9_asNumber cX9_asNumber 2 (some .int) ∈ zGW := qw_1097
theorem nm_X9_asNumber : yX9_asNumber.cls ≠ "java/lang/invoke/MethodHandle" ∧ yX9_asNumber.cls ≠ "java/lang/invoke/VarHandle" ∧ (parseMethodDescriptor yX9_asNumber.desc).map (fun d => d.parameters.length) = some 1 := by decide +kernel
theorem qc_X9_at : Cond.code yX9_at cX9_at 1 (some .int) ∈ zGW := qw_1086
theorem nm_X9_at : yX9_at.cls ≠ "java/lang/invoke/MethodHandle" ∧ yX9_at.cls ≠ "java/lang/invoke/VarHandle" ∧ (parseMethodDescriptor yX9_at.desc).map (fun d => d.parameters.length) = some 1 := by decide +kernel
theorem qc_X9_becomes : Cond.code yX9_becomes cX9_becomes 4 none ∈ zGW := qw_1156
theorem nm_X9_becomes : yX9_becomes.cls ≠ "java/lang/invoke/MethodHandle" ∧ yX9_becomes.cls ≠ "java/lang/invoke/VarHandle" ∧ (parseMethodDescriptor yX9_becomes.desc).map (fun d => d.parameters.length) = some 2 := by decide +kernel
theorem qc_X9_begins : Cond.code yX9_begins cX9_begins 6 none ∈ zGW := qw_1090
theorem nm_X9_begins : yX9_begins.cls ≠ "java/lang/invoke/MethodHandle" ∧ yX9_begins.cls ≠ "java/lang/invoke/VarHandle" ∧ (parseMethodDescriptor yX9_begins.desc).map (fun d => d.parameters.length) = some 1 := by decide +kernel
theorem qc_X9_callMany : Cond.code yX9_callMany cX9_callMany 1 (some .int) ∈ zGW := qw_1075
theorem nm_X9_callMany : yX9_callMany.cls ≠ "java/lang/invoke/MethodHandle" ∧ yX9_callMany.cls ≠ "java/lang/invoke/VarHandle" ∧ (parseMethodDescriptor yX9_callMany.desc).map (fun d => d.parameters.length) = some 0 := by decide +kernel
theorem qc_X9_chooses : Cond.code yX9_chooses cX9_chooses 2 none ∈ zGW := qw_1245
theorem nm_X9_chooses : yX9_chooses.cls ≠ "java/lang/invoke/MethodHandle" ∧ yX9_chooses.cls ≠ "java/lang/invoke/VarHandle" ∧ (parseMethodDescriptor yX9_chooses.desc).map (fun d => d.parameters.length) = some 1 := by decide +kernel
theorem qc_X9_comes : Cond.code yX9_comes cX9_comes 4 none ∈ zGW := qw_1152
theorem nm_X9_comes : yX9_comes.cls ≠ "java/lang/invoke/MethodHandle" ∧ yX9_comes.cls ≠ "java/lang/invoke/VarHandle" ∧ (parseMethodDescriptor yX9_comes.desc).map (fun d => d.parameters.length) = some 1 := by decide +kernel
theorem qc_X9_countOf : Cond.code yX9_countOf cX9_countOf 1 (some .int) ∈ zGW := qw_1159
theorem nm_X9_countOf : yX9_countOf.cls ≠ "java/lang/invoke/MethodHandle" ∧ yX9_countOf.cls ≠ "java/lang/invoke/VarHandle" ∧ (parseMethodDescriptor yX9_countOf.desc).map (fun d => d.parameters.length) = some 1 := by decide +kernel
theorem qc_X9_endAt : Cond.code yX9_endAt cX9_endAt 4 (some .int) ∈ zGW := qw_1390
theorem nm_X9_endAt : yX9_endAt.cls ≠ "java/lang/invoke/MethodHandle" ∧ yX9_endAt.cls ≠ "java/lang/invoke/VarHandle" ∧ (parseMethodDescriptor yX9_endAt.desc).map (fun d => d.parameters.length) = some 1 := by decide +kernel
theorem qc_X9_epochMoves : Cond.code yX9_epochMoves cX9_epochMoves 4 none ∈ zGW := qw_1217
theorem nm_X9_epochMoves : yX9_epochMoves.cls ≠ "java/lang/invoke/MethodHandle" ∧ yX9_epochMoves.cls ≠ "java/lang/invoke/VarHandle" ∧ (parseMethodDescriptor yX9_epochMoves.desc).map (fun d => d.parameters.length) = some 0 := by decide +kernel
theorem qc_X9_field : Cond.code yX9_field cX9_field 4 (some .int) ∈ zGW := qw_1182
theorem nm_X9_field : yX9_field.cls ≠ "java/lang/invoke/MethodHandle" ∧ yX9_field.cls ≠ "java/lang/invoke/VarHandle" ∧ (parseMethodDescriptor yX9_field.desc).map (fun d => d.parameters.length) = some 3 := by decide +kernel
theorem qc_X9_finds : Cond.code yX9_finds cX9_finds 3 none ∈ zGW := qw_1105
theorem nm_X9_finds : yX9_finds.cls ≠ "java/lang/invoke/MethodHandle" ∧ yX9_finds.cls ≠ "java/lang/invoke/VarHandle" ∧ (parseMethodDescriptor yX9_finds.desc).map (fun d => d.parameters.length) = some 2 := by decide +kernel
theorem qc_X9_firstInRing : Cond.code yX9_firstInRing cX9_firstInRing 2 (some .int) ∈ zGW := qw_1382
theorem nm_X9_firstInRing : yX9_firstInRing.cls ≠ "java/lang/invoke/MethodHandle" ∧ yX9_firstInRing.cls ≠ "java/lang/invoke/VarHandle" ∧ (parseMethodDescriptor yX9_firstInRing.desc).map (fun d => d.parameters.length) = some 0 := by decide +kernel
theorem qc_X9_firstMarked : Cond.code yX9_firstMarked cX9_firstMarked 4 (some .int) ∈ zGW := qw_1370
theorem nm_X9_firstMarked : yX9_firstMarked.cls ≠ "java/lang/invoke/MethodHandle" ∧ yX9_firstMarked.cls ≠ "java/lang/invoke/VarHandle" ∧ (parseMethodDescriptor yX9_firstMarked.desc).map (fun d => d.parameters.length) = some 2 := by decide +kernel
theorem qc_X9_firstNotAlone : Cond.code yX9_firstNotAlone cX9_firstNotAlone 2 (some .int) ∈ zGW := qw_1374
theorem nm_X9_firstNotAlone : yX9_firstNotAlone.cls ≠ "java/lang/invoke/MethodHandle" ∧ yX9_firstNotAlone.cls ≠ "java/lang/invoke/VarHandle" ∧ (parseMethodDescriptor yX9_firstNotAlone.desc).map (fun d => d.parameters.length) = some 0 := by decide +kernel
theorem qc_X9_fits : Cond.code yX9_fits cX9_fits 6 (some .boolean) ∈ zGW := qw_1310
theorem nm_X9_fits : yX9_fits.cls ≠ "java/lang/invoke/MethodHandle" ∧ yX9_fits.cls ≠ "java/lang/invoke/VarHandle" ∧ (parseMethodDescriptor yX9_fits.desc).map (fun d => d.parameters.length) = some 1 := by decide +kernel
theorem qc_X9_flush : Cond.code yX9_flush cX9_flush 2 none ∈ zGW := qw_1148
theorem nm_X9_flush : yX9_flush.cls ≠ "java/lang/invoke/MethodHandle" ∧ yX9_flush.cls ≠ "java/lang/invoke/VarHandle" ∧ (parseMethodDescriptor yX9_flush.desc).map (fun d => d.parameters.length) = some 1 := by decide +kernel
theorem qc_X9_found : Cond.code yX9_found cX9_found 5 (some .int) ∈ zGW := qw_1350
theorem nm_X9_found : yX9_found.cls ≠ "java/lang/invoke/MethodHandle" ∧ yX9_found.cls ≠ "java/lang/invoke/VarHandle" ∧ (parseMethodDescriptor yX9_found.desc).map (fun d => d.parameters.length) = some 1 := by decide +kernel
theorem qc_X9_goesOn : Cond.code yX9_goesOn cX9_goesOn 5 none ∈ zGW := qw_1342
theorem nm_X9_goesOn : yX9_goesOn.cls ≠ "java/lang/invoke/MethodHandle" ∧ yX9_goesOn.cls ≠ "java/lang/invoke/VarHandle" ∧ (parseMethodDescriptor yX9_goesOn.desc).map (fun d => d.parameters.length) = some 2 := by decide +kernel
theorem qc_X9_happens : Cond.code yX9_happens cX9_happens 7 none ∈ zGW := qw_1178
theorem nm_X9_happens : yX9_happens.cls ≠ "java/lang/invoke/MethodHandle" ∧ yX9_happens.cls ≠ "java/lang/invoke/VarHandle" ∧ (parseMethodDescriptor yX9_happens.desc).map (fun d => d.parameters.length) = some 1 := by decide +kernel
theorem qc_X9_hasAct : Cond.code yX9_hasAct cX9_hasAct 3 (some .boolean) ∈ zGW := qw_1037
theorem nm_X9_hasAct : yX9_hasAct.cls ≠ "java/lang/invoke/MethodHandle" ∧ yX9_hasAct.cls ≠ "java/lang/invoke/VarHandle" ∧ (parseMethodDescriptor yX9_hasAct.desc).map (fun d => d.parameters.length) = some 2 := by decide +kernel
theorem qc_X9_hasFinding : Cond.code yX9_hasFinding cX9_hasFinding 1 (some .boolean) ∈ zGW := qw_1298
theorem nm_X9_hasFinding : yX9_hasFinding.cls ≠ "java/lang/invoke/MethodHandle" ∧ yX9_hasFinding.cls ≠ "java/lang/invoke/VarHandle" ∧ (parseMethodDescriptor yX9_hasFinding.desc).map (fun d => d.parameters.length) = some 0 := by decide +kernel
theorem qc_X9_in : Cond.code yX9_in cX9_in 6 (some .boolean) ∈ zGW := qw_1000
theorem nm_X9_in : yX9_in.cls ≠ "java/lang/invoke/MethodHandle" ∧ yX9_in.cls ≠ "java/lang/invoke/VarHandle" ∧ (parseMethodDescriptor yX9_in.desc).map (fun d => d.parameters.length) = some 3 := by decide +kernel
theorem qc_X9_isAct : Cond.code yX9_isAct cX9_isAct 4 (some .boolean) ∈ zGW := qw_1003
theorem nm_X9_isAct : yX9_isAct.cls ≠ "java/lang/invoke/MethodHandle" ∧ yX9_isAct.cls ≠ "java/lang/invoke/VarHandle" ∧ (parseMethodDescriptor yX9_isAct.desc).map (fun d => d.parameters.length) = some 4 := by decide +kernel
theorem qc_X9_isAlone : Cond.code yX9_isAlone cX9_isAlone 6 (some .boolean) ∈ zGW := qw_1378
theorem nm_X9_isAlone : yX9_isAlone.cls ≠ "java/lang/invoke/MethodHandle" ∧ yX9_isAlone.cls ≠ "java/lang/invoke/VarHandle" ∧ (parseMethodDescriptor yX9_isAlone.desc).map (fun d => d.parameters.length) = some 2 := by decide +kernel
theorem qc_X9_isBit : Cond.code yX9_isBit cX9_isBit 1 (some .boolean) ∈ zGW := qw_1013
theorem nm_X9_isBit : yX9_isBit.cls ≠ "java/lang/invoke/MethodHandle" ∧ yX9_isBit.cls ≠ "java/lang/invoke/VarHandle" ∧ (parseMethodDescriptor yX9_isBit.desc).map (fun d => d.parameters.length) = some 1 := by decide +kernel
theorem qc_X9_isCall : Cond.code yX9_isCall cX9_isCall 2 (some .boolean) ∈ zGW := qw_1306
theorem nm_X9_isCall : yX9_isCall.cls ≠ "java/lang/invoke/MethodHandle" ∧ yX9_isCall.cls ≠ "java/lang/invoke/VarHandle" ∧ (parseMethodDescriptor yX9_isCall.desc).map (fun d => d.parameters.length) = some 1 := by decide +kernel
theorem qc_X9_isEnd : Cond.code yX9_isEnd cX9_isEnd 3 (some .boolean) ∈ zGW := qw_1290
theorem nm_X9_isEnd : yX9_isEnd.cls ≠ "java/lang/invoke/MethodHandle" ∧ yX9_isEnd.cls ≠ "java/lang/invoke/VarHandle" ∧ (parseMethodDescriptor yX9_isEnd.desc).map (fun d => d.parameters.length) = some 0 := by decide +kernel
theorem qc_X9_isFree : Cond.code yX9_isFree cX9_isFree 3 (some .boolean) ∈ zGW := qw_1167
theorem nm_X9_isFree : yX9_isFree.cls ≠ "java/lang/invoke/MethodHandle" ∧ yX9_isFree.cls ≠ "java/lang/invoke/VarHandle" ∧ (parseMethodDescriptor yX9_isFree.desc).map (fun d => d.parameters.length) = some 2 := by decide +kernel
theorem qc_X9_isGlobal : Cond.code yX9_isGlobal cX9_isGlobal 1 (some .boolean) ∈ zGW := qw_1009
theorem nm_X9_isGlobal : yX9_isGlobal.cls ≠ "java/lang/invoke/MethodHandle" ∧ yX9_isGlobal.cls ≠ "java/lang/invoke/VarHandle" ∧ (parseMethodDescriptor yX9_isGlobal.desc).map (fun d => d.parameters.length) = some 1 := by decide +kernel
theorem qc_X9_isGuarded : Cond.code yX9_isGuarded cX9_isGuarded 4 (some .boolean) ∈ zGW := qw_1213
theorem nm_X9_isGuarded : yX9_isGuarded.cls ≠ "java/lang/invoke/MethodHandle" ∧ yX9_isGuarded.cls ≠ "java/lang/invoke/VarHandle" ∧ (parseMethodDescriptor yX9_isGuarded.desc).map (fun d => d.parameters.length) = some 1 := by decide +kernel
theorem qc_X9_isInRing : Cond.code yX9_isInRing cX9_isInRing 6 (some .boolean) ∈ zGW := qw_1386
theorem nm_X9_isInRing : yX9_isInRing.cls ≠ "java/lang/invoke/MethodHandle" ∧ yX9_isInRing.cls ≠ "java/lang/invoke/VarHandle" ∧ (parseMethodDescriptor yX9_isInRing.desc).map (fun d => d.parameters.length) = some 1 := by decide +kernel
theorem qc_X9_isLate : Cond.code yX9_isLate cX9_isLate 1 (some .boolean) ∈ zGW := qw_1190
theorem nm_X9_isLate : yX9_isLate.cls ≠ "java/lang/invoke/MethodHandle" ∧ yX9_isLate.cls ≠ "java/lang/invoke/VarHandle" ∧ (parseMethodDescriptor yX9_isLate.desc).map (fun d => d.parameters.length) = some 0 := by decide +kernel
theorem qc_X9_isLocal : Cond.code yX9_isLocal cX9_isLocal 1 (some .boolean) ∈ zGW := qw_1006
theorem nm_X9_isLocal : yX9_isLocal.cls ≠ "java/lang/invoke/MethodHandle" ∧ yX9_isLocal.cls ≠ "java/lang/invoke/VarHandle" ∧ (parseMethodDescriptor yX9_isLocal.desc).map (fun d => d.parameters.length) = some 1 := by decide +kernel
theorem qc_X9_isNumber : Cond.code yX9_isNumber cX9_isNumber 1 (some .boolean) ∈ zGW := qw_1016
theorem nm_X9_isNumber : yX9_isNumber.cls ≠ "java/lang/invoke/MethodHandle" ∧ yX9_isNumber.cls ≠ "java/lang/invoke/VarHandle" ∧ (parseMethodDescriptor yX9_isNumber.desc).map (fun d => d.parameters.length) = some 1 := by decide +kernel
theorem qc_X9_isOwn : Cond.code yX9_isOwn cX9_isOwn 1 (some .boolean) ∈ zGW := qw_1116
theorem nm_X9_isOwn : yX9_isOwn.cls ≠ "java/lang/invoke/MethodHandle" ∧ yX9_isOwn.cls ≠ "java/lang/invoke/VarHandle" ∧ (parseMethodDescriptor yX9_isOwn.desc).map (fun d => d.parameters.length) = some 1 := by decide +kernel
theorem qc_X9_isRoutine : Cond.code yX9_isRoutine cX9_isRoutine 1 (some .boolean) ∈ zGW := qw_996
theorem nm_X9_isRoutine : yX9_isRoutine.cls ≠ "java/lang/invoke/MethodHandle" ∧ yX9_isRoutine.cls ≠ "java/lang/invoke/VarHandle" ∧ (parseMethodDescriptor yX9_isRoutine.desc).map (fun d => d.parameters.length) = some 1 := by decide +kernel
theorem qc_X9_isState : Cond.code yX9_isState cX9_isState 2 (some .boolean) ∈ zGW := qw_1398
theorem nm_X9_isState : yX9_isState.cls ≠ "java/lang/invoke/MethodHandle" ∧ yX9_isState.cls ≠ "java/lang/invoke/VarHandle" ∧ (parseMethodDescriptor yX9_isState.desc).map (fun d => d.parameters.length) = some 1 := by decide +kernel
theorem qc_X9_isThere : Cond.code yX9_isThere cX9_isThere 3 (some .boolean) ∈ zGW := qw_1241
theorem nm_X9_isThere : yX9_isThere.cls ≠ "java/lang/invoke/MethodHandle" ∧ yX9_isThere.cls ≠ "java/lang/invoke/VarHandle" ∧ (parseMethodDescriptor yX9_isThere.desc).map (fun d => d.parameters.length) = some 1 := by decide +kernel
theorem qc_X9_keep : Cond.code yX9_keep cX9_keep 8 none ∈ zGW := qw_1338
theorem nm_X9_keep : yX9_keep.cls ≠ "java/lang/invoke/MethodHandle" ∧ yX9_keep.cls ≠ "java/lang/invoke/VarHandle" ∧ (parseMethodDescriptor yX9_keep.desc).map (fun d => d.parameters.length) = some 3 := by decide +kernel
theorem qc_X9_keepProgram : Cond.code yX9_keepProgram cX9_keepProgram 3 none ∈ zGW := qw_1225
theorem nm_X9_keepProgram : yX9_keepProgram.cls ≠ "java/lang/invoke/MethodHandle" ∧ yX9_keepProgram.cls ≠ "java/lang/invoke/VarHandle" ∧ (parseMethodDescriptor yX9_keepProgram.desc).map (fun d => d.parameters.length) = some 1 := by decide +kernel
theorem qc_X9_keepRun : Cond.code yX9_keepRun cX9_keepRun 2 none ∈ zGW := qw_1229
theorem nm_X9_keepRun : yX9_keepRun.cls ≠ "java/lang/invoke/MethodHandle" ∧ yX9_keepRun.cls ≠ "java/lang/invoke/VarHandle" ∧ (parseMethodDescriptor yX9_keepRun.desc).map (fun d => d.parameters.length) = some 0 := by decide +kernel
theorem qc_X9_keepsNow : Cond.code yX9_keepsNow cX9_keepsNow 4 (some .boolean) ∈ zGW := qw_1326
theorem nm_X9_keepsNow : yX9_keepsNow.cls ≠ "java/lang/invoke/MethodHandle" ∧ yX9_keepsNow.cls ≠ "java/lang/invoke/VarHandle" ∧ (parseMethodDescriptor yX9_keepsNow.desc).map (fun d => d.parameters.length) = some 0 := by decide +kernel
theorem qc_X9_lengthOf : Cond.code yX9_lengthOf cX9_lengthOf 4 (some .int) ∈ zGW := qw_1402
theorem nm_X9_lengthOf : yX9_lengthOf.cls ≠ "java/lang/invoke/MethodHandle" ∧ yX9_lengthOf.cls ≠ "java/lang/invoke/VarHandle" ∧ (parseMethodDescriptor yX9_lengthOf.desc).map (fun d => d.parameters.length) = some 1 := by decide +kernel
theorem qc_X9_load : Cond.code yX9_load cX9_load 3 none ∈ zGW := qw_1346
theorem nm_X9_load : yX9_load.cls ≠ "java/lang/invoke/MethodHandle" ∧ yX9_load.cls ≠ "java/lang/invoke/VarHandle" ∧ (parseMethodDescriptor yX9_load.desc).map (fun d => d.parameters.length) = some 1 := by decide +kernel
theorem qc_X9_localOf : Cond.code yX9_localOf cX9_localOf 3 (some .int) ∈ zGW := qw_1130
theorem nm_X9_localOf : yX9_localOf.cls ≠ "java/lang/invoke/MethodHandle" ∧ yX9_localOf.cls ≠ "java/lang/invoke/VarHandle" ∧ (parseMethodDescriptor yX9_localOf.desc).map (fun d => d.parameters.length) = some 2 := by decide +kernel
theorem qc_X9_looks : Cond.code yX9_looks cX9_looks 2 none ∈ zGW := qw_1209
theorem nm_X9_looks : yX9_looks.cls ≠ "java/lang/invoke/MethodHandle" ∧ yX9_looks.cls ≠ "java/lang/invoke/VarHandle" ∧ (parseMethodDescriptor yX9_looks.desc).map (fun d => d.parameters.length) = some 0 := by decide +kernel
theorem qc_X9_marked : Cond.code yX9_marked cX9_marked 5 (some .int) ∈ zGW := qw_1358
theorem nm_X9_marked : yX9_marked.cls ≠ "java/lang/invoke/MethodHandle" ∧ yX9_marked.cls ≠ "java/lang/invoke/VarHandle" ∧ (parseMethodDescriptor yX9_marked.desc).map (fun d => d.parameters.length) = some 2 := by decide +kernel
theorem qc_X9_mayStand : Cond.code yX9_mayStand cX9_mayStand 5 (some .boolean) ∈ zGW := qw_1302
theorem nm_X9_mayStand : yX9_mayStand.cls ≠ "java/lang/invoke/MethodHandle" ∧ yX9_mayStand.cls ≠ "java/lang/invoke/VarHandle" ∧ (parseMethodDescriptor yX9_mayStand.desc).map (fun d => d.parameters.length) = some 3 := by decide +kernel
theorem qc_X9_meets : Cond.code yX9_meets cX9_meets 6 (some .int) ∈ zGW := qw_1144
theorem nm_X9_meets : yX9_meets.cls ≠ "java/lang/invoke/MethodHandle" ∧ yX9_meets.cls ≠ "java/lang/invoke/VarHandle" ∧ (parseMethodDescriptor yX9_meets.desc).map (fun d => d.parameters.length) = some 4 := by decide +kernel
theorem qc_X9_memory : Cond.code yX9_memory cX9_memory 7 none ∈ zGW := qw_1140
theorem nm_X9_memory : yX9_memory.cls ≠ "java/lang/invoke/MethodHandle" ∧ yX9_memory.cls ≠ "java/lang/invoke/VarHandle" ∧ (parseMethodDescriptor yX9_memory.desc).map (fun d => d.parameters.length) = some 1 := by decide +kernel
theorem qc_X9_mostWaiting : Cond.code yX9_mostWaiting cX9_mostWaiting 3 (some .int) ∈ zGW := qw_1362
theorem nm_X9_mostWaiting : yX9_mostWaiting.cls ≠ "java/lang/invoke/MethodHandle" ∧ yX9_mostWaiting.cls ≠ "java/lang/invoke/VarHandle" ∧ (parseMethodDescriptor yX9_mostWaiting.desc).map (fun d => d.parameters.length) = some 0 := by decide +kernel
theorem qc_X9_nodeOf : Cond.code yX9_nodeOf cX9_nodeOf 1 (some .int) ∈ zGW := qw_1170
theorem nm_X9_nodeOf : yX9_nodeOf.cls ≠ "java/lang/invoke/MethodHandle" ∧ yX9_nodeOf.cls ≠ "java/lang/invoke/VarHandle" ∧ (parseMethodDescriptor yX9_nodeOf.desc).map (fun d => d.parameters.length) = some 1 := by decide +kernel
theorem qc_X9_notNode : Cond.code yX9_notNode cX9_notNode 4 (some .int) ∈ zGW := qw_1163
theorem nm_X9_notNode : yX9_notNode.cls ≠ "java/lang/invoke/MethodHandle" ∧ yX9_notNode.cls ≠ "java/lang/invoke/VarHandle" ∧ (parseMethodDescriptor yX9_notNode.desc).map (fun d => d.parameters.length) = some 2 := by decide +kernel
theorem qc_X9_numberOf : Cond.code yX9_numberOf cX9_numberOf 1 (some .int) ∈ zGW := qw_1136
theorem nm_X9_numberOf : yX9_numberOf.cls ≠ "java/lang/invoke/MethodHandle" ∧ yX9_numberOf.cls ≠ "java/lang/invoke/VarHandle" ∧ (parseMethodDescriptor yX9_numberOf.desc).map (fun d => d.parameters.length) = some 1 := by decide +kernel
theorem qc_X9_opAt : Cond.code yX9_opAt cX9_opAt 4 (some .int) ∈ zGW := qw_1113
theorem nm_X9_opAt : yX9_opAt.cls ≠ "java/lang/invoke/MethodHandle" ∧ yX9_opAt.cls ≠ "java/lang/invoke/VarHandle" ∧ (parseMethodDescriptor yX9_opAt.desc).map (fun d => d.parameters.length) = some 1 := by decide +kernel
theorem qc_X9_other : Cond.code yX9_other cX9_other 7 none ∈ zGW := qw_1202
theorem nm_X9_other : yX9_other.cls ≠ "java/lang/invoke/MethodHandle" ∧ yX9_other.cls ≠ "java/lang/invoke/VarHandle" ∧ (parseMethodDescriptor yX9_other.desc).map (fun d => d.parameters.length) = some 4 := by decide +kernel
theorem qc_X9_own : Cond.code yX9_own cX9_own 8 none ∈ zGW := qw_1122
theorem nm_X9_own : yX9_own.cls ≠ "java/lang/invoke/MethodHandle" ∧ yX9_own.cls ≠ "java/lang/invoke/VarHandle" ∧ (parseMethodDescriptor yX9_own.desc).map (fun d => d.parameters.length) = some 1 := by decide +kernel
theorem qc_X9_owns : Cond.code yX9_owns cX9_owns 2 none ∈ zGW := qw_1109
theorem nm_X9_owns : yX9_owns.cls ≠ "java/lang/invoke/MethodHandle" ∧ yX9_owns.cls ≠ "java/lang/invoke/VarHandle" ∧ (parseMethodDescriptor yX9_owns.desc).map (fun d => d.parameters.length) = some 1 := by decide +kernel
theorem qc_X9_prepared : Cond.code yX9_prepared cX9_prepared 4 (some .int) ∈ zGW := qw_1079
theorem nm_X9_prepared : yX9_prepared.cls ≠ "java/lang/invoke/MethodHandle" ∧ yX9_prepared.cls ≠ "java/lang/invoke/VarHandle" ∧ (parseMethodDescriptor yX9_prepared.desc).map (fun d => d.parameters.length) = some 0 := by decide +kernel
theorem qc_X9_returns : Cond.code yX9_returns cX9_returns 6 none ∈ zGW := qw_1221
theorem nm_X9_returns : yX9_returns.cls ≠ "java/lang/invoke/MethodHandle" ∧ yX9_returns.cls ≠ "java/lang/invoke/VarHandle" ∧ (parseMethodDescriptor yX9_returns.desc).map (fun d => d.parameters.length) = some 2 := by decide +kernel
theorem qc_X9_routineOf : Cond.code yX9_routineOf cX9_routineOf 2 (some .int) ∈ zGW := qw_1101
theorem nm_X9_routineOf : yX9_routineOf.cls ≠ "java/lang/invoke/MethodHandle" ∧ yX9_routineOf.cls ≠ "java/lang/invoke/VarHandle" ∧ (parseMethodDescriptor yX9_routineOf.desc).map (fun d => d.parameters.length) = some 1 := by decide +kernel
theorem qc_X9_says : Cond.code yX9_says cX9_says 9 (some .boolean) ∈ zGW := qw_1314
theorem nm_X9_says : yX9_says.cls ≠ "java/lang/invoke/MethodHandle" ∧ yX9_says.cls ≠ "java/lang/invoke/VarHandle" ∧ (parseMethodDescriptor yX9_says.desc).map (fun d => d.parameters.length) = some 4 := by decide +kernel
theorem qc_X9_sees : Cond.code yX9_sees cX9_sees 6 (some .int) ∈ zGW := qw_1174
theorem nm_X9_sees : yX9_sees.cls ≠ "java/lang/invoke/MethodHandle" ∧ yX9_sees.cls ≠ "java/lang/invoke/VarHandle" ∧ (parseMethodDescriptor yX9_sees.desc).map (fun d => d.parameters.length) = some 2 := by decide +kernel
theorem qc_X9_setLocal : Cond.code yX9_setLocal cX9_setLocal 4 none ∈ zGW := qw_1094
theorem nm_X9_setLocal : yX9_setLocal.cls ≠ "java/lang/invoke/MethodHandle" ∧ yX9_setLocal.cls ≠ "java/lang/invoke/VarHandle" ∧ (parseMethodDescriptor yX9_setLocal.desc).map (fun d => d.parameters.length) = some 3 := by decide +kernel
theorem qc_X9_steps : Cond.code yX9_steps cX9_steps 3 none ∈ zGW := qw_1083
theorem nm_X9_steps : yX9_steps.cls ≠ "java/lang/invoke/MethodHandle" ∧ yX9_steps.cls ≠ "java/lang/invoke/VarHandle" ∧ (parseMethodDescriptor yX9_steps.desc).map (fun d => d.parameters.length) = some 1 := by decide +kernel
theorem qc_X9_sumNow : Cond.code yX9_sumNow cX9_sumNow 3 (some .int) ∈ zGW := qw_1334
theorem nm_X9_sumNow : yX9_sumNow.cls ≠ "java/lang/invoke/MethodHandle" ∧ yX9_sumNow.cls ≠ "java/lang/invoke/VarHandle" ∧ (parseMethodDescriptor yX9_sumNow.desc).map (fun d => d.parameters.length) = some 0 := by decide +kernel
theorem qc_X9_swaps : Cond.code yX9_swaps cX9_swaps 6 none ∈ zGW := qw_1194
theorem nm_X9_swaps : yX9_swaps.cls ≠ "java/lang/invoke/MethodHandle" ∧ yX9_swaps.cls ≠ "java/lang/invoke/VarHandle" ∧ (parseMethodDescriptor yX9_swaps.desc).map (fun d => d.parameters.length) = some 4 := by decide +kernel
theorem qc_X9_takeRun : Cond.code yX9_takeRun cX9_takeRun 2 none ∈ zGW := qw_1237
theorem nm_X9_takeRun : yX9_takeRun.cls ≠ "java/lang/invoke/MethodHandle" ∧ yX9_takeRun.cls ≠ "java/lang/invoke/VarHandle" ∧ (parseMethodDescriptor yX9_takeRun.desc).map (fun d => d.parameters.length) = some 0 := by decide +kernel
theorem qc_X9_takes : Cond.code yX9_takes cX9_takes 2 (some .int) ∈ zGW := qw_1318
theorem nm_X9_takes : yX9_takes.cls ≠ "java/lang/invoke/MethodHandle" ∧ yX9_takes.cls ≠ "java/lang/invoke/VarHandle" ∧ (parseMethodDescriptor yX9_takes.desc).map (fun d => d.parameters.length) = some 1 := by decide +kernel
theorem qc_X9_use : Cond.code yX9_use cX9_use 3 none ∈ zGW := qw_1071
theorem nm_X9_use : yX9_use.cls ≠ "java/lang/invoke/MethodHandle" ∧ yX9_use.cls ≠ "java/lang/invoke/VarHandle" ∧ (parseMethodDescriptor yX9_use.desc).map (fun d => d.parameters.length) = some 1 := by decide +kernel
theorem qc_X9_whatOf : Cond.code yX9_whatOf cX9_whatOf 3 (some .int) ∈ zGW := qw_1262
theorem nm_X9_whatOf : yX9_whatOf.cls ≠ "java/lang/invoke/MethodHandle" ∧ yX9_whatOf.cls ≠ "java/lang/invoke/VarHandle" ∧ (parseMethodDescriptor yX9_whatOf.desc).map (fun d => d.parameters.length) = some 2 := by decide +kernel
theorem qc_X9_writes : Cond.code yX9_writes cX9_writes 5 none ∈ zGW := qw_1186
theorem nm_X9_writes : yX9_writes.cls ≠ "java/lang/invoke/MethodHandle" ∧ yX9_writes.cls ≠ "java/lang/invoke/VarHandle" ∧ (parseMethodDescriptor yX9_writes.desc).map (fun d => d.parameters.length) = some 3 := by decide +kernel
theorem qc_fill : Cond.code yJ7_fill_53178 cJ7_fill_53178 4 none ∈ zGW := qw_142
theorem nm_fill : yJ7_fill_53178.cls ≠ "java/lang/invoke/MethodHandle" ∧ yJ7_fill_53178.cls ≠ "java/lang/invoke/VarHandle" ∧ (parseMethodDescriptor yJ7_fill_53178.desc).map (fun d => d.parameters.length) = some 2 := by decide +kernel
