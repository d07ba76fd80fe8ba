abbrev cMa_floorMod : ByteArray := prog_14_method_50_code
def yMa_floorMod : MethodName := ⟨RMa, "floorMod", "(II)I"⟩
def wsMa_floorMod : List Cond := .code yMa_floorMod cMa_floorMod 3 (some .int) :: TB
theorem dMa_floorMod_0 : decode cMa_floorMod 0 = .ok (.iload_n 0, 1) := by decide +kernel
theorem dMa_floorMod_1 : decode cMa_floorMod 1 = .ok (.iload_n 1, 1) := by decide +kernel
theorem dMa_floorMod_2 : decode cMa_floorMod 2 = .ok (.irem, 1) := by decide +kernel
theorem dMa_floorMod_3 : decode cMa_floorMod 3 = .ok (.istore_n 2, 1) := by decide +kernel
theorem dMa_floorMod_4 : decode cMa_floorMod 4 = .ok (.iload_n 0, 1) := by decide +kernel
theorem dMa_floorMod_5 : decode cMa_floorMod 5 = .ok (.iload_n 1, 1) := by decide +kernel
theorem dMa_floorMod_6 : decode cMa_floorMod 6 = .ok (.ixor, 1) := by decide +kernel
theorem dMa_floorMod_7 : decode cMa_floorMod 7 = .ok (.ifCond .ge 11, 3) := by decide +kernel
theorem dMa_floorMod_10 : decode cMa_floorMod 10 = .ok (.iload_n 2, 1) := by decide +kernel
theorem dMa_floorMod_11 : decode cMa_floorMod 11 = .ok (.ifCond .eq 7, 3) := by decide +kernel
theorem dMa_floorMod_14 : decode cMa_floorMod 14 = .ok (.iload_n 2, 1) := by decide +kernel
theorem dMa_floorMod_15 : decode cMa_floorMod 15 = .ok (.iload_n 1, 1) := by decide +kernel
theorem dMa_floorMod_16 : decode cMa_floorMod 16 = .ok (.iadd, 1) := by decide +kernel
theorem dMa_floorMod_17 : decode cMa_floorMod 17 = .ok (.ireturn, 1) := by decide +kernel
theorem dMa_floorMod_18 : decode cMa_floorMod 18 = .ok (.iload_n 2, 1) := by decide +kernel
theorem dMa_floorMod_19 : decode cMa_floorMod 19 = .ok (.ireturn, 1) := by decide +kernel
abbrev cMa_max : ByteArray := prog_14_method_66_code
def yMa_max : MethodName := ⟨RMa, "max", "(JJ)J"⟩
def wsMa_max : List Cond := .code yMa_max cMa_max 4 (some .long) :: TB
theorem dMa_max_0 : decode cMa_max 0 = .ok (.lload_n 0, 1) := by decide +kernel
theorem dMa_max_1 : decode cMa_max 1 = .ok (.lload_n 2, 1) := by decide +kernel
theorem dMa_max_2 : decode cMa_max 2 = .ok (.lcmp, 1) := by decide +kernel
theorem dMa_max_3 : decode cMa_max 3 = .ok (.ifCond .lt 7, 3) := by decide +kernel
theorem dMa_max_6 : decode cMa_max 6 = .ok (.lload_n 0, 1) := by decide +kernel
theorem dMa_max_7 : decode cMa_max 7 = .ok (.goto 4, 3) := by decide +kernel
theorem dMa_max_10 : decode cMa_max 10 = .ok (.lload_n 2, 1) := by decide +kernel
theorem dMa_max_11 : decode cMa_max 11 = .ok (.lreturn, 1) := by decide +kernel
abbrev cMa_min : ByteArray := prog_14_method_70_code
def yMa_min : MethodName := ⟨RMa, "min", "(JJ)J"⟩
def wsMa_min : List Cond := .code yMa_min cMa_min 4 (some .long) :: TB
theorem dMa_min_0 : decode cMa_min 0 = .ok (.lload_n 0, 1) := by decide +kernel
theorem dMa_min_1 : decode cMa_min 1 = .ok (.lload_n 2, 1) := by decide +kernel
theorem dMa_min_2 : decode cMa_min 2 = .ok (.lcmp, 1) := by decide +kernel
theorem dMa_min_3 : decode cMa_min 3 = .ok (.ifCond .gt 7, 3) := by decide +kernel
theorem dMa_min_6 : decode cMa_min 6 = .ok (.lload_n 0, 1) := by decide +kernel
theorem dMa_min_7 : decode cMa_min 7 = .ok (.goto 4, 3) := by decide +kernel
theorem dMa_min_10 : decode cMa_min 10 = .ok (.lload_n 2, 1) := by decide +kernel
theorem dMa_min_11 : decode cMa_min 11 = .ok (.lreturn, 1) := by decide +kernel
