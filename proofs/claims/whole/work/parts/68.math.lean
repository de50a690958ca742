abbrev b_Math_max : ByteArray := prog_19_method_65_code
def m_Math_max : Mi := (⟨"java/lang/Math", "max", "(II)I"⟩, b_Math_max, 2, (some .int), [])
theorem d_Math_max_0 : decode (mB m_Math_max) 0 = .ok (.iload_n 0, 1) := by decide +kernel
theorem d_Math_max_1 : decode (mB m_Math_max) 1 = .ok (.iload_n 1, 1) := by decide +kernel
theorem d_Math_max_2 : decode (mB m_Math_max) 2 = .ok (.if_icmp .lt 7, 3) := by decide +kernel
theorem d_Math_max_5 : decode (mB m_Math_max) 5 = .ok (.iload_n 0, 1) := by decide +kernel
theorem d_Math_max_6 : decode (mB m_Math_max) 6 = .ok (.goto 4, 3) := by decide +kernel
theorem d_Math_max_9 : decode (mB m_Math_max) 9 = .ok (.iload_n 1, 1) := by decide +kernel
theorem d_Math_max_10 : decode (mB m_Math_max) 10 = .ok (.ireturn, 1) := by decide +kernel
theorem cal_Math_max : mCalF m_Math_max 2 := ⟨Or.inl ⟨rfl, goodIn_r _ [287] (by decide +kernel) (by decide +kernel)⟩, by decide +kernel, ⟨by decide, by decide⟩, by decide +kernel⟩
abbrev b_Math_min : ByteArray := prog_19_method_69_code
def m_Math_min : Mi := (⟨"java/lang/Math", "min", "(II)I"⟩, b_Math_min, 2, (some .int), [])
theorem d_Math_min_0 : decode (mB m_Math_min) 0 = .ok (.iload_n 0, 1) := by decide +kernel
theorem d_Math_min_1 : decode (mB m_Math_min) 1 = .ok (.iload_n 1, 1) := by decide +kernel
theorem d_Math_min_2 : decode (mB m_Math_min) 2 = .ok (.if_icmp .gt 7, 3) := by decide +kernel
theorem d_Math_min_5 : decode (mB m_Math_min) 5 = .ok (.iload_n 0, 1) := by decide +kernel
theorem d_Math_min_6 : decode (mB m_Math_min) 6 = .ok (.goto 4, 3) := by decide +kernel
theorem d_Math_min_9 : decode (mB m_Math_min) 9 = .ok (.iload_n 1, 1) := by decide +kernel
theorem d_Math_min_10 : decode (mB m_Math_min) 10 = .ok (.ireturn, 1) := by decide +kernel
theorem cal_Math_min : mCalF m_Math_min 2 := ⟨Or.inl ⟨rfl, goodIn_r _ [498] (by decide +kernel) (by decide +kernel)⟩, by decide +kernel, ⟨by decide, by decide⟩, by decide +kernel⟩
abbrev b_Math_floorMod : ByteArray := prog_19_method_50_code
def m_Math_floorMod : Mi := (⟨"java/lang/Math", "floorMod", "(II)I"⟩, b_Math_floorMod, 3, (some .int), [])
theorem d_Math_floorMod_0 : decode (mB m_Math_floorMod) 0 = .ok (.iload_n 0, 1) := by decide +kernel
theorem d_Math_floorMod_1 : decode (mB m_Math_floorMod) 1 = .ok (.iload_n 1, 1) := by decide +kernel
theorem d_Math_floorMod_2 : decode (mB m_Math_floorMod) 2 = .ok (.irem, 1) := by decide +kernel
theorem d_Math_floorMod_3 : decode (mB m_Math_floorMod) 3 = .ok (.istore_n 2, 1) := by decide +kernel
theorem d_Math_floorMod_4 : decode (mB m_Math_floorMod) 4 = .ok (.iload_n 0, 1) := by decide +kernel
theorem d_Math_floorMod_5 : decode (mB m_Math_floorMod) 5 = .ok (.iload_n 1, 1) := by decide +kernel
theorem d_Math_floorMod_6 : decode (mB m_Math_floorMod) 6 = .ok (.ixor, 1) := by decide +kernel
theorem d_Math_floorMod_7 : decode (mB m_Math_floorMod) 7 = .ok (.ifCond .ge 11, 3) := by decide +kernel
theorem d_Math_floorMod_10 : decode (mB m_Math_floorMod) 10 = .ok (.iload_n 2, 1) := by decide +kernel
theorem d_Math_floorMod_11 : decode (mB m_Math_floorMod) 11 = .ok (.ifCond .eq 7, 3) := by decide +kernel
theorem d_Math_floorMod_14 : decode (mB m_Math_floorMod) 14 = .ok (.iload_n 2, 1) := by decide +kernel
theorem d_Math_floorMod_15 : decode (mB m_Math_floorMod) 15 = .ok (.iload_n 1, 1) := by decide +kernel
theorem d_Math_floorMod_16 : decode (mB m_Math_floorMod) 16 = .ok (.iadd, 1) := by decide +kernel
theorem d_Math_floorMod_17 : decode (mB m_Math_floorMod) 17 = .ok (.ireturn, 1) := by decide +kernel
theorem d_Math_floorMod_18 : decode (mB m_Math_floorMod) 18 = .ok (.iload_n 2, 1) := by decide +kernel
theorem d_Math_floorMod_19 : decode (mB m_Math_floorMod) 19 = .ok (.ireturn, 1) := by decide +kernel
theorem cal_Math_floorMod : mCalF m_Math_floorMod 2 := ⟨Or.inl ⟨rfl, goodIn_r _ [843] (by decide +kernel) (by decide +kernel)⟩, by decide +kernel, ⟨by decide, by decide⟩, by decide +kernel⟩
