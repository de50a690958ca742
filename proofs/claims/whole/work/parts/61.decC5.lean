abbrev b_Lin_channelFrom : ByteArray := prog_9_method_4_code
def m_Lin_channelFrom : Mi := (⟨"TextNet$Line", "channelFrom", "(I)LTextNet$Channel;"⟩, b_Lin_channelFrom, 2, (some (.object "TextNet$Channel")), [])
theorem d_Lin_channelFrom_0 : decode (mB m_Lin_channelFrom) 0 = .ok (.iload_n 1, 1) := by decide +kernel
theorem d_Lin_channelFrom_1 : decode (mB m_Lin_channelFrom) 1 = .ok (.aload_n 0, 1) := by decide +kernel
theorem d_Lin_channelFrom_2 : decode (mB m_Lin_channelFrom) 2 = .ok (.getfield 23, 3) := by decide +kernel
theorem d_Lin_channelFrom_5 : decode (mB m_Lin_channelFrom) 5 = .ok (.if_icmp .ne 10, 3) := by decide +kernel
theorem d_Lin_channelFrom_8 : decode (mB m_Lin_channelFrom) 8 = .ok (.aload_n 0, 1) := by decide +kernel
theorem d_Lin_channelFrom_9 : decode (mB m_Lin_channelFrom) 9 = .ok (.getfield 10, 3) := by decide +kernel
theorem d_Lin_channelFrom_12 : decode (mB m_Lin_channelFrom) 12 = .ok (.goto 7, 3) := by decide +kernel
theorem d_Lin_channelFrom_15 : decode (mB m_Lin_channelFrom) 15 = .ok (.aload_n 0, 1) := by decide +kernel
theorem d_Lin_channelFrom_16 : decode (mB m_Lin_channelFrom) 16 = .ok (.getfield 16, 3) := by decide +kernel
theorem d_Lin_channelFrom_19 : decode (mB m_Lin_channelFrom) 19 = .ok (.areturn, 1) := by decide +kernel
theorem cal_Lin_channelFrom : mCal m_Lin_channelFrom 1 := ⟨Or.inl ⟨rfl, goodIn_r _ [718] (by decide +kernel) (by decide +kernel)⟩, by decide, ⟨by decide, by decide⟩, by decide +kernel⟩
abbrev b_Lin_loseFrames : ByteArray := prog_9_method_5_code
def m_Lin_loseFrames : Mi := (⟨"TextNet$Line", "loseFrames", "()V"⟩, b_Lin_loseFrames, 1, none, [])
theorem d_Lin_loseFrames_0 : decode (mB m_Lin_loseFrames) 0 = .ok (.aload_n 0, 1) := by decide +kernel
theorem d_Lin_loseFrames_1 : decode (mB m_Lin_loseFrames) 1 = .ok (.getfield 10, 3) := by decide +kernel
theorem d_Lin_loseFrames_4 : decode (mB m_Lin_loseFrames) 4 = .ok (.getfield 37, 3) := by decide +kernel
theorem d_Lin_loseFrames_7 : decode (mB m_Lin_loseFrames) 7 = .ok (.invokevirtual 41, 3) := by decide +kernel
theorem d_Lin_loseFrames_10 : decode (mB m_Lin_loseFrames) 10 = .ok (.aload_n 0, 1) := by decide +kernel
theorem d_Lin_loseFrames_11 : decode (mB m_Lin_loseFrames) 11 = .ok (.getfield 16, 3) := by decide +kernel
theorem d_Lin_loseFrames_14 : decode (mB m_Lin_loseFrames) 14 = .ok (.getfield 37, 3) := by decide +kernel
theorem d_Lin_loseFrames_17 : decode (mB m_Lin_loseFrames) 17 = .ok (.invokevirtual 41, 3) := by decide +kernel
theorem d_Lin_loseFrames_20 : decode (mB m_Lin_loseFrames) 20 = .ok (.return_, 1) := by decide +kernel
theorem cal_Lin_loseFrames : mCal m_Lin_loseFrames 0 := ⟨Or.inl ⟨rfl, goodIn_r _ [897] (by decide +kernel) (by decide +kernel)⟩, by decide, ⟨by decide, by decide⟩, by decide +kernel⟩
abbrev b_Msg_init : ByteArray := prog_10_method_1_code
def m_Msg_init : Mi := (⟨"TextNet$Message", "<init>", "([B[JI)V"⟩, b_Msg_init, 4, none, [])
theorem d_Msg_init_0 : decode (mB m_Msg_init) 0 = .ok (.aload_n 0, 1) := by decide +kernel
theorem d_Msg_init_1 : decode (mB m_Msg_init) 1 = .ok (.invokespecial 3, 3) := by decide +kernel
theorem d_Msg_init_4 : decode (mB m_Msg_init) 4 = .ok (.aload_n 0, 1) := by decide +kernel
theorem d_Msg_init_5 : decode (mB m_Msg_init) 5 = .ok (.aload_n 1, 1) := by decide +kernel
theorem d_Msg_init_6 : decode (mB m_Msg_init) 6 = .ok (.putfield 9, 3) := by decide +kernel
theorem d_Msg_init_9 : decode (mB m_Msg_init) 9 = .ok (.aload_n 0, 1) := by decide +kernel
theorem d_Msg_init_10 : decode (mB m_Msg_init) 10 = .ok (.aload_n 2, 1) := by decide +kernel
theorem d_Msg_init_11 : decode (mB m_Msg_init) 11 = .ok (.putfield 15, 3) := by decide +kernel
theorem d_Msg_init_14 : decode (mB m_Msg_init) 14 = .ok (.aload_n 0, 1) := by decide +kernel
theorem d_Msg_init_15 : decode (mB m_Msg_init) 15 = .ok (.iload_n 3, 1) := by decide +kernel
theorem d_Msg_init_16 : decode (mB m_Msg_init) 16 = .ok (.putfield 19, 3) := by decide +kernel
theorem d_Msg_init_19 : decode (mB m_Msg_init) 19 = .ok (.return_, 1) := by decide +kernel
theorem cal_Msg_init : mCal m_Msg_init 3 := ⟨Or.inl ⟨rfl, goodIn_r _ [658] (by decide +kernel) (by decide +kernel)⟩, by decide, ⟨by decide, by decide⟩, by decide +kernel⟩
abbrev b_Msg_allAddresses : ByteArray := prog_10_method_2_code
def m_Msg_allAddresses : Mi := (⟨"TextNet$Message", "allAddresses", "()I"⟩, b_Msg_allAddresses, 1, (some .int), [])
theorem d_Msg_allAddresses_0 : decode (mB m_Msg_allAddresses) 0 = .ok (.iconst 1, 1) := by decide +kernel
theorem d_Msg_allAddresses_1 : decode (mB m_Msg_allAddresses) 1 = .ok (.aload_n 0, 1) := by decide +kernel
theorem d_Msg_allAddresses_2 : decode (mB m_Msg_allAddresses) 2 = .ok (.getfield 15, 3) := by decide +kernel
theorem d_Msg_allAddresses_5 : decode (mB m_Msg_allAddresses) 5 = .ok (.arraylength, 1) := by decide +kernel
theorem d_Msg_allAddresses_6 : decode (mB m_Msg_allAddresses) 6 = .ok (.ishl, 1) := by decide +kernel
theorem d_Msg_allAddresses_7 : decode (mB m_Msg_allAddresses) 7 = .ok (.iconst 1, 1) := by decide +kernel
theorem d_Msg_allAddresses_8 : decode (mB m_Msg_allAddresses) 8 = .ok (.isub, 1) := by decide +kernel
theorem d_Msg_allAddresses_9 : decode (mB m_Msg_allAddresses) 9 = .ok (.ireturn, 1) := by decide +kernel
theorem cal_Msg_allAddresses : mCal m_Msg_allAddresses 0 := ⟨Or.inl ⟨rfl, goodIn_r _ [682] (by decide +kernel) (by decide +kernel)⟩, by decide, ⟨by decide, by decide⟩, by decide +kernel⟩
abbrev b_Msg_hasArrived : ByteArray := prog_10_method_3_code
def m_Msg_hasArrived : Mi := (⟨"TextNet$Message", "hasArrived", "(I)Z"⟩, b_Msg_hasArrived, 2, (some .boolean), [])
theorem d_Msg_hasArrived_0 : decode (mB m_Msg_hasArrived) 0 = .ok (.aload_n 0, 1) := by decide +kernel
theorem d_Msg_hasArrived_1 : decode (mB m_Msg_hasArrived) 1 = .ok (.getfield 23, 3) := by decide +kernel
theorem d_Msg_hasArrived_4 : decode (mB m_Msg_hasArrived) 4 = .ok (.iconst 1, 1) := by decide +kernel
theorem d_Msg_hasArrived_5 : decode (mB m_Msg_hasArrived) 5 = .ok (.iload_n 1, 1) := by decide +kernel
theorem d_Msg_hasArrived_6 : decode (mB m_Msg_hasArrived) 6 = .ok (.ishl, 1) := by decide +kernel
theorem d_Msg_hasArrived_7 : decode (mB m_Msg_hasArrived) 7 = .ok (.iand, 1) := by decide +kernel
theorem d_Msg_hasArrived_8 : decode (mB m_Msg_hasArrived) 8 = .ok (.ifCond .eq 7, 3) := by decide +kernel
theorem d_Msg_hasArrived_11 : decode (mB m_Msg_hasArrived) 11 = .ok (.iconst 1, 1) := by decide +kernel
theorem d_Msg_hasArrived_12 : decode (mB m_Msg_hasArrived) 12 = .ok (.goto 4, 3) := by decide +kernel
theorem d_Msg_hasArrived_15 : decode (mB m_Msg_hasArrived) 15 = .ok (.iconst 0, 1) := by decide +kernel
theorem d_Msg_hasArrived_16 : decode (mB m_Msg_hasArrived) 16 = .ok (.ireturn, 1) := by decide +kernel
theorem cal_Msg_hasArrived : mCal m_Msg_hasArrived 1 := ⟨Or.inl ⟨rfl, goodIn_r _ [706] (by decide +kernel) (by decide +kernel)⟩, by decide, ⟨by decide, by decide⟩, by decide +kernel⟩
abbrev b_Msg_byteAt : ByteArray := prog_10_method_4_code
def m_Msg_byteAt : Mi := (⟨"TextNet$Message", "byteAt", "(I)I"⟩, b_Msg_byteAt, 2, (some .int), [])
theorem d_Msg_byteAt_0 : decode (mB m_Msg_byteAt) 0 = .ok (.iload_n 1, 1) := by decide +kernel
theorem d_Msg_byteAt_1 : decode (mB m_Msg_byteAt) 1 = .ok (.ifCond .lt 25, 3) := by decide +kernel
theorem d_Msg_byteAt_4 : decode (mB m_Msg_byteAt) 4 = .ok (.iload_n 1, 1) := by decide +kernel
theorem d_Msg_byteAt_5 : decode (mB m_Msg_byteAt) 5 = .ok (.aload_n 0, 1) := by decide +kernel
theorem d_Msg_byteAt_6 : decode (mB m_Msg_byteAt) 6 = .ok (.getfield 9, 3) := by decide +kernel
theorem d_Msg_byteAt_9 : decode (mB m_Msg_byteAt) 9 = .ok (.arraylength, 1) := by decide +kernel
theorem d_Msg_byteAt_10 : decode (mB m_Msg_byteAt) 10 = .ok (.if_icmp .ge 16, 3) := by decide +kernel
theorem d_Msg_byteAt_13 : decode (mB m_Msg_byteAt) 13 = .ok (.aload_n 0, 1) := by decide +kernel
theorem d_Msg_byteAt_14 : decode (mB m_Msg_byteAt) 14 = .ok (.getfield 9, 3) := by decide +kernel
theorem d_Msg_byteAt_17 : decode (mB m_Msg_byteAt) 17 = .ok (.iload_n 1, 1) := by decide +kernel
theorem d_Msg_byteAt_18 : decode (mB m_Msg_byteAt) 18 = .ok (.baload, 1) := by decide +kernel
theorem d_Msg_byteAt_19 : decode (mB m_Msg_byteAt) 19 = .ok (.sipush 255, 3) := by decide +kernel
theorem d_Msg_byteAt_22 : decode (mB m_Msg_byteAt) 22 = .ok (.iand, 1) := by decide +kernel
theorem d_Msg_byteAt_23 : decode (mB m_Msg_byteAt) 23 = .ok (.goto 4, 3) := by decide +kernel
theorem d_Msg_byteAt_26 : decode (mB m_Msg_byteAt) 26 = .ok (.iconst (-1), 1) := by decide +kernel
theorem d_Msg_byteAt_27 : decode (mB m_Msg_byteAt) 27 = .ok (.ireturn, 1) := by decide +kernel
theorem cal_Msg_byteAt : mCal m_Msg_byteAt 1 := ⟨Or.inl ⟨rfl, goodIn_r _ [935] (by decide +kernel) (by decide +kernel)⟩, by decide, ⟨by decide, by decide⟩, by decide +kernel⟩
abbrev b_Swt_init : ByteArray := prog_11_method_1_code
def m_Swt_init : Mi := (⟨"TextNet$Switch", "<init>", "()V"⟩, b_Swt_init, 1, none, [])
theorem d_Swt_init_0 : decode (mB m_Swt_init) 0 = .ok (.aload_n 0, 1) := by decide +kernel
theorem d_Swt_init_1 : decode (mB m_Swt_init) 1 = .ok (.invokespecial 3, 3) := by decide +kernel
theorem d_Swt_init_4 : decode (mB m_Swt_init) 4 = .ok (.aload_n 0, 1) := by decide +kernel
theorem d_Swt_init_5 : decode (mB m_Swt_init) 5 = .ok (.bipush 16, 2) := by decide +kernel
theorem d_Swt_init_7 : decode (mB m_Swt_init) 7 = .ok (.anewarray 9, 3) := by decide +kernel
theorem d_Swt_init_10 : decode (mB m_Swt_init) 10 = .ok (.putfield 11, 3) := by decide +kernel
theorem d_Swt_init_13 : decode (mB m_Swt_init) 13 = .ok (.aload_n 0, 1) := by decide +kernel
theorem d_Swt_init_14 : decode (mB m_Swt_init) 14 = .ok (.sipush 200, 3) := by decide +kernel
theorem d_Swt_init_17 : decode (mB m_Swt_init) 17 = .ok (.anewarray 17, 3) := by decide +kernel
theorem d_Swt_init_20 : decode (mB m_Swt_init) 20 = .ok (.putfield 19, 3) := by decide +kernel
theorem d_Swt_init_23 : decode (mB m_Swt_init) 23 = .ok (.aload_n 0, 1) := by decide +kernel
theorem d_Swt_init_24 : decode (mB m_Swt_init) 24 = .ok (.new 23, 3) := by decide +kernel
theorem d_Swt_init_27 : decode (mB m_Swt_init) 27 = .ok (.dup, 1) := by decide +kernel
theorem d_Swt_init_28 : decode (mB m_Swt_init) 28 = .ok (.invokespecial 25, 3) := by decide +kernel
theorem d_Swt_init_31 : decode (mB m_Swt_init) 31 = .ok (.putfield 26, 3) := by decide +kernel
theorem d_Swt_init_34 : decode (mB m_Swt_init) 34 = .ok (.return_, 1) := by decide +kernel
theorem cal_Swt_init : mCal m_Swt_init 0 := ⟨Or.inl ⟨rfl, goodIn_r _ [112] (by decide +kernel) (by decide +kernel)⟩, by decide, ⟨by decide, by decide⟩, by decide +kernel⟩
abbrev b_Swt_addEntry : ByteArray := prog_11_method_2_code
def m_Swt_addEntry : Mi := (⟨"TextNet$Switch", "addEntry", "(LTextNet$Entry;)V"⟩, b_Swt_addEntry, 2, none, [])
theorem d_Swt_addEntry_0 : decode (mB m_Swt_addEntry) 0 = .ok (.aload_n 0, 1) := by decide +kernel
theorem d_Swt_addEntry_1 : decode (mB m_Swt_addEntry) 1 = .ok (.getfield 30, 3) := by decide +kernel
theorem d_Swt_addEntry_4 : decode (mB m_Swt_addEntry) 4 = .ok (.bipush 16, 2) := by decide +kernel
theorem d_Swt_addEntry_6 : decode (mB m_Swt_addEntry) 6 = .ok (.if_icmp .ge 23, 3) := by decide +kernel
theorem d_Swt_addEntry_9 : decode (mB m_Swt_addEntry) 9 = .ok (.aload_n 0, 1) := by decide +kernel
theorem d_Swt_addEntry_10 : decode (mB m_Swt_addEntry) 10 = .ok (.getfield 11, 3) := by decide +kernel
theorem d_Swt_addEntry_13 : decode (mB m_Swt_addEntry) 13 = .ok (.aload_n 0, 1) := by decide +kernel
theorem d_Swt_addEntry_14 : decode (mB m_Swt_addEntry) 14 = .ok (.getfield 30, 3) := by decide +kernel
theorem d_Swt_addEntry_17 : decode (mB m_Swt_addEntry) 17 = .ok (.aload_n 1, 1) := by decide +kernel
theorem d_Swt_addEntry_18 : decode (mB m_Swt_addEntry) 18 = .ok (.aastore, 1) := by decide +kernel
theorem d_Swt_addEntry_19 : decode (mB m_Swt_addEntry) 19 = .ok (.aload_n 0, 1) := by decide +kernel
theorem d_Swt_addEntry_20 : decode (mB m_Swt_addEntry) 20 = .ok (.dup, 1) := by decide +kernel
theorem d_Swt_addEntry_21 : decode (mB m_Swt_addEntry) 21 = .ok (.getfield 30, 3) := by decide +kernel
theorem d_Swt_addEntry_24 : decode (mB m_Swt_addEntry) 24 = .ok (.iconst 1, 1) := by decide +kernel
theorem d_Swt_addEntry_25 : decode (mB m_Swt_addEntry) 25 = .ok (.iadd, 1) := by decide +kernel
theorem d_Swt_addEntry_26 : decode (mB m_Swt_addEntry) 26 = .ok (.putfield 30, 3) := by decide +kernel
theorem d_Swt_addEntry_29 : decode (mB m_Swt_addEntry) 29 = .ok (.return_, 1) := by decide +kernel
theorem cal_Swt_addEntry : mCal m_Swt_addEntry 1 := ⟨Or.inl ⟨rfl, goodIn_r _ [432] (by decide +kernel) (by decide +kernel)⟩, by decide, ⟨by decide, by decide⟩, by decide +kernel⟩
abbrev b_Swt_hasEntry : ByteArray := prog_11_method_3_code
def m_Swt_hasEntry : Mi := (⟨"TextNet$Switch", "hasEntry", "(J)Z"⟩, b_Swt_hasEntry, 7, (some .boolean), [])
theorem d_Swt_hasEntry_0 : decode (mB m_Swt_hasEntry) 0 = .ok (.aload_n 0, 1) := by decide +kernel
theorem d_Swt_hasEntry_1 : decode (mB m_Swt_hasEntry) 1 = .ok (.getfield 11, 3) := by decide +kernel
theorem d_Swt_hasEntry_4 : decode (mB m_Swt_hasEntry) 4 = .ok (.astore_n 3, 1) := by decide +kernel
theorem d_Swt_hasEntry_5 : decode (mB m_Swt_hasEntry) 5 = .ok (.aload_n 3, 1) := by decide +kernel
theorem d_Swt_hasEntry_6 : decode (mB m_Swt_hasEntry) 6 = .ok (.arraylength, 1) := by decide +kernel
theorem d_Swt_hasEntry_7 : decode (mB m_Swt_hasEntry) 7 = .ok (.istore 4, 2) := by decide +kernel
theorem d_Swt_hasEntry_9 : decode (mB m_Swt_hasEntry) 9 = .ok (.iconst 0, 1) := by decide +kernel
theorem d_Swt_hasEntry_10 : decode (mB m_Swt_hasEntry) 10 = .ok (.istore 5, 2) := by decide +kernel
theorem d_Swt_hasEntry_12 : decode (mB m_Swt_hasEntry) 12 = .ok (.iload 5, 2) := by decide +kernel
theorem d_Swt_hasEntry_14 : decode (mB m_Swt_hasEntry) 14 = .ok (.iload 4, 2) := by decide +kernel
theorem d_Swt_hasEntry_16 : decode (mB m_Swt_hasEntry) 16 = .ok (.if_icmp .ge 32, 3) := by decide +kernel
theorem d_Swt_hasEntry_19 : decode (mB m_Swt_hasEntry) 19 = .ok (.aload_n 3, 1) := by decide +kernel
theorem d_Swt_hasEntry_20 : decode (mB m_Swt_hasEntry) 20 = .ok (.iload 5, 2) := by decide +kernel
theorem d_Swt_hasEntry_22 : decode (mB m_Swt_hasEntry) 22 = .ok (.aaload, 1) := by decide +kernel
theorem d_Swt_hasEntry_23 : decode (mB m_Swt_hasEntry) 23 = .ok (.astore 6, 2) := by decide +kernel
theorem d_Swt_hasEntry_25 : decode (mB m_Swt_hasEntry) 25 = .ok (.aload 6, 2) := by decide +kernel
theorem d_Swt_hasEntry_27 : decode (mB m_Swt_hasEntry) 27 = .ok (.ifnull 15, 3) := by decide +kernel
theorem d_Swt_hasEntry_30 : decode (mB m_Swt_hasEntry) 30 = .ok (.aload 6, 2) := by decide +kernel
theorem d_Swt_hasEntry_32 : decode (mB m_Swt_hasEntry) 32 = .ok (.getfield 34, 3) := by decide +kernel
theorem d_Swt_hasEntry_35 : decode (mB m_Swt_hasEntry) 35 = .ok (.lload_n 1, 1) := by decide +kernel
theorem d_Swt_hasEntry_36 : decode (mB m_Swt_hasEntry) 36 = .ok (.lcmp, 1) := by decide +kernel
theorem d_Swt_hasEntry_37 : decode (mB m_Swt_hasEntry) 37 = .ok (.ifCond .ne 5, 3) := by decide +kernel
theorem d_Swt_hasEntry_40 : decode (mB m_Swt_hasEntry) 40 = .ok (.iconst 1, 1) := by decide +kernel
theorem d_Swt_hasEntry_41 : decode (mB m_Swt_hasEntry) 41 = .ok (.ireturn, 1) := by decide +kernel
theorem d_Swt_hasEntry_42 : decode (mB m_Swt_hasEntry) 42 = .ok (.iinc 5 1, 3) := by decide +kernel
theorem d_Swt_hasEntry_45 : decode (mB m_Swt_hasEntry) 45 = .ok (.goto (-33), 3) := by decide +kernel
theorem d_Swt_hasEntry_48 : decode (mB m_Swt_hasEntry) 48 = .ok (.iconst 0, 1) := by decide +kernel
theorem d_Swt_hasEntry_49 : decode (mB m_Swt_hasEntry) 49 = .ok (.ireturn, 1) := by decide +kernel
theorem cal_Swt_hasEntry : mCal m_Swt_hasEntry 1 := ⟨Or.inl ⟨rfl, goodIn_r _ [374] (by decide +kernel) (by decide +kernel)⟩, by decide, ⟨by decide, by decide⟩, by decide +kernel⟩
abbrev b_Swt_entryFor : ByteArray := prog_11_method_4_code
def m_Swt_entryFor : Mi := (⟨"TextNet$Switch", "entryFor", "(J)LTextNet$Entry;"⟩, b_Swt_entryFor, 8, (some (.object "TextNet$Entry")), [])
theorem d_Swt_entryFor_0 : decode (mB m_Swt_entryFor) 0 = .ok (.aconst_null, 1) := by decide +kernel
theorem d_Swt_entryFor_1 : decode (mB m_Swt_entryFor) 1 = .ok (.astore_n 3, 1) := by decide +kernel
theorem d_Swt_entryFor_2 : decode (mB m_Swt_entryFor) 2 = .ok (.aload_n 0, 1) := by decide +kernel
theorem d_Swt_entryFor_3 : decode (mB m_Swt_entryFor) 3 = .ok (.getfield 11, 3) := by decide +kernel
theorem d_Swt_entryFor_6 : decode (mB m_Swt_entryFor) 6 = .ok (.astore 4, 2) := by decide +kernel
theorem d_Swt_entryFor_8 : decode (mB m_Swt_entryFor) 8 = .ok (.aload 4, 2) := by decide +kernel
theorem d_Swt_entryFor_10 : decode (mB m_Swt_entryFor) 10 = .ok (.arraylength, 1) := by decide +kernel
theorem d_Swt_entryFor_11 : decode (mB m_Swt_entryFor) 11 = .ok (.istore 5, 2) := by decide +kernel
theorem d_Swt_entryFor_13 : decode (mB m_Swt_entryFor) 13 = .ok (.iconst 0, 1) := by decide +kernel
theorem d_Swt_entryFor_14 : decode (mB m_Swt_entryFor) 14 = .ok (.istore 6, 2) := by decide +kernel
theorem d_Swt_entryFor_16 : decode (mB m_Swt_entryFor) 16 = .ok (.iload 6, 2) := by decide +kernel
theorem d_Swt_entryFor_18 : decode (mB m_Swt_entryFor) 18 = .ok (.iload 5, 2) := by decide +kernel
theorem d_Swt_entryFor_20 : decode (mB m_Swt_entryFor) 20 = .ok (.if_icmp .ge 49, 3) := by decide +kernel
theorem d_Swt_entryFor_23 : decode (mB m_Swt_entryFor) 23 = .ok (.aload 4, 2) := by decide +kernel
theorem d_Swt_entryFor_25 : decode (mB m_Swt_entryFor) 25 = .ok (.iload 6, 2) := by decide +kernel
theorem d_Swt_entryFor_27 : decode (mB m_Swt_entryFor) 27 = .ok (.aaload, 1) := by decide +kernel
theorem d_Swt_entryFor_28 : decode (mB m_Swt_entryFor) 28 = .ok (.astore 7, 2) := by decide +kernel
theorem d_Swt_entryFor_30 : decode (mB m_Swt_entryFor) 30 = .ok (.aload 7, 2) := by decide +kernel
theorem d_Swt_entryFor_32 : decode (mB m_Swt_entryFor) 32 = .ok (.ifnull 31, 3) := by decide +kernel
theorem d_Swt_entryFor_35 : decode (mB m_Swt_entryFor) 35 = .ok (.aload 7, 2) := by decide +kernel
theorem d_Swt_entryFor_37 : decode (mB m_Swt_entryFor) 37 = .ok (.lload_n 1, 1) := by decide +kernel
theorem d_Swt_entryFor_38 : decode (mB m_Swt_entryFor) 38 = .ok (.invokevirtual 38, 3) := by decide +kernel
theorem d_Swt_entryFor_41 : decode (mB m_Swt_entryFor) 41 = .ok (.ifCond .eq 22, 3) := by decide +kernel
theorem d_Swt_entryFor_44 : decode (mB m_Swt_entryFor) 44 = .ok (.aload_n 3, 1) := by decide +kernel
theorem d_Swt_entryFor_45 : decode (mB m_Swt_entryFor) 45 = .ok (.ifnull 15, 3) := by decide +kernel
theorem d_Swt_entryFor_48 : decode (mB m_Swt_entryFor) 48 = .ok (.aload 7, 2) := by decide +kernel
theorem d_Swt_entryFor_50 : decode (mB m_Swt_entryFor) 50 = .ok (.getfield 42, 3) := by decide +kernel
theorem d_Swt_entryFor_53 : decode (mB m_Swt_entryFor) 53 = .ok (.aload_n 3, 1) := by decide +kernel
theorem d_Swt_entryFor_54 : decode (mB m_Swt_entryFor) 54 = .ok (.getfield 42, 3) := by decide +kernel
theorem d_Swt_entryFor_57 : decode (mB m_Swt_entryFor) 57 = .ok (.if_icmp .le 6, 3) := by decide +kernel
theorem d_Swt_entryFor_60 : decode (mB m_Swt_entryFor) 60 = .ok (.aload 7, 2) := by decide +kernel
theorem d_Swt_entryFor_62 : decode (mB m_Swt_entryFor) 62 = .ok (.astore_n 3, 1) := by decide +kernel
theorem d_Swt_entryFor_63 : decode (mB m_Swt_entryFor) 63 = .ok (.iinc 6 1, 3) := by decide +kernel
theorem d_Swt_entryFor_66 : decode (mB m_Swt_entryFor) 66 = .ok (.goto (-50), 3) := by decide +kernel
theorem d_Swt_entryFor_69 : decode (mB m_Swt_entryFor) 69 = .ok (.aload_n 3, 1) := by decide +kernel
theorem d_Swt_entryFor_70 : decode (mB m_Swt_entryFor) 70 = .ok (.areturn, 1) := by decide +kernel
theorem cal_Swt_entryFor : mCal m_Swt_entryFor 1 := ⟨Or.inl ⟨rfl, goodIn_r _ [693] (by decide +kernel) (by decide +kernel)⟩, by decide, ⟨by decide, by decide⟩, by decide +kernel⟩
abbrev b_Swt_deliver : ByteArray := prog_11_method_5_code
def m_Swt_deliver : Mi := (⟨"TextNet$Switch", "deliver", "(LTextNet$Message;II)V"⟩, b_Swt_deliver, 5, none, [])
theorem d_Swt_deliver_0 : decode (mB m_Swt_deliver) 0 = .ok (.aload_n 1, 1) := by decide +kernel
theorem d_Swt_deliver_1 : decode (mB m_Swt_deliver) 1 = .ok (.iload_n 2, 1) := by decide +kernel
theorem d_Swt_deliver_2 : decode (mB m_Swt_deliver) 2 = .ok (.invokevirtual 45, 3) := by decide +kernel
theorem d_Swt_deliver_5 : decode (mB m_Swt_deliver) 5 = .ok (.ifCond .eq 14, 3) := by decide +kernel
theorem d_Swt_deliver_8 : decode (mB m_Swt_deliver) 8 = .ok (.aload_n 0, 1) := by decide +kernel
theorem d_Swt_deliver_9 : decode (mB m_Swt_deliver) 9 = .ok (.dup, 1) := by decide +kernel
theorem d_Swt_deliver_10 : decode (mB m_Swt_deliver) 10 = .ok (.getfield 49, 3) := by decide +kernel
theorem d_Swt_deliver_13 : decode (mB m_Swt_deliver) 13 = .ok (.iconst 1, 1) := by decide +kernel
theorem d_Swt_deliver_14 : decode (mB m_Swt_deliver) 14 = .ok (.iadd, 1) := by decide +kernel
theorem d_Swt_deliver_15 : decode (mB m_Swt_deliver) 15 = .ok (.putfield 49, 3) := by decide +kernel
theorem d_Swt_deliver_18 : decode (mB m_Swt_deliver) 18 = .ok (.return_, 1) := by decide +kernel
theorem d_Swt_deliver_19 : decode (mB m_Swt_deliver) 19 = .ok (.aload_n 1, 1) := by decide +kernel
theorem d_Swt_deliver_20 : decode (mB m_Swt_deliver) 20 = .ok (.dup, 1) := by decide +kernel
theorem d_Swt_deliver_21 : decode (mB m_Swt_deliver) 21 = .ok (.getfield 52, 3) := by decide +kernel
theorem d_Swt_deliver_24 : decode (mB m_Swt_deliver) 24 = .ok (.iconst 1, 1) := by decide +kernel
theorem d_Swt_deliver_25 : decode (mB m_Swt_deliver) 25 = .ok (.iload_n 2, 1) := by decide +kernel
theorem d_Swt_deliver_26 : decode (mB m_Swt_deliver) 26 = .ok (.ishl, 1) := by decide +kernel
theorem d_Swt_deliver_27 : decode (mB m_Swt_deliver) 27 = .ok (.ior, 1) := by decide +kernel
theorem d_Swt_deliver_28 : decode (mB m_Swt_deliver) 28 = .ok (.putfield 52, 3) := by decide +kernel
theorem d_Swt_deliver_31 : decode (mB m_Swt_deliver) 31 = .ok (.aload_n 1, 1) := by decide +kernel
theorem d_Swt_deliver_32 : decode (mB m_Swt_deliver) 32 = .ok (.getfield 55, 3) := by decide +kernel
theorem d_Swt_deliver_35 : decode (mB m_Swt_deliver) 35 = .ok (.iconst 1, 1) := by decide +kernel
theorem d_Swt_deliver_36 : decode (mB m_Swt_deliver) 36 = .ok (.iload_n 3, 1) := by decide +kernel
theorem d_Swt_deliver_37 : decode (mB m_Swt_deliver) 37 = .ok (.ishl, 1) := by decide +kernel
theorem d_Swt_deliver_38 : decode (mB m_Swt_deliver) 38 = .ok (.iand, 1) := by decide +kernel
theorem d_Swt_deliver_39 : decode (mB m_Swt_deliver) 39 = .ok (.ifCond .ne 7, 3) := by decide +kernel
theorem d_Swt_deliver_42 : decode (mB m_Swt_deliver) 42 = .ok (.iconst 1, 1) := by decide +kernel
theorem d_Swt_deliver_43 : decode (mB m_Swt_deliver) 43 = .ok (.goto 4, 3) := by decide +kernel
theorem d_Swt_deliver_46 : decode (mB m_Swt_deliver) 46 = .ok (.iconst 0, 1) := by decide +kernel
theorem d_Swt_deliver_47 : decode (mB m_Swt_deliver) 47 = .ok (.istore 4, 2) := by decide +kernel
theorem d_Swt_deliver_49 : decode (mB m_Swt_deliver) 49 = .ok (.iload 4, 2) := by decide +kernel
theorem d_Swt_deliver_51 : decode (mB m_Swt_deliver) 51 = .ok (.ifCond .eq 45, 3) := by decide +kernel
theorem d_Swt_deliver_54 : decode (mB m_Swt_deliver) 54 = .ok (.aload_n 0, 1) := by decide +kernel
theorem d_Swt_deliver_55 : decode (mB m_Swt_deliver) 55 = .ok (.getfield 58, 3) := by decide +kernel
theorem d_Swt_deliver_58 : decode (mB m_Swt_deliver) 58 = .ok (.sipush 200, 3) := by decide +kernel
theorem d_Swt_deliver_61 : decode (mB m_Swt_deliver) 61 = .ok (.if_icmp .ge 35, 3) := by decide +kernel
theorem d_Swt_deliver_64 : decode (mB m_Swt_deliver) 64 = .ok (.aload_n 1, 1) := by decide +kernel
theorem d_Swt_deliver_65 : decode (mB m_Swt_deliver) 65 = .ok (.dup, 1) := by decide +kernel
theorem d_Swt_deliver_66 : decode (mB m_Swt_deliver) 66 = .ok (.getfield 55, 3) := by decide +kernel
theorem d_Swt_deliver_69 : decode (mB m_Swt_deliver) 69 = .ok (.iconst 1, 1) := by decide +kernel
theorem d_Swt_deliver_70 : decode (mB m_Swt_deliver) 70 = .ok (.iload_n 3, 1) := by decide +kernel
theorem d_Swt_deliver_71 : decode (mB m_Swt_deliver) 71 = .ok (.ishl, 1) := by decide +kernel
theorem d_Swt_deliver_72 : decode (mB m_Swt_deliver) 72 = .ok (.ior, 1) := by decide +kernel
theorem d_Swt_deliver_73 : decode (mB m_Swt_deliver) 73 = .ok (.putfield 55, 3) := by decide +kernel
theorem d_Swt_deliver_76 : decode (mB m_Swt_deliver) 76 = .ok (.aload_n 0, 1) := by decide +kernel
theorem d_Swt_deliver_77 : decode (mB m_Swt_deliver) 77 = .ok (.getfield 19, 3) := by decide +kernel
theorem d_Swt_deliver_80 : decode (mB m_Swt_deliver) 80 = .ok (.aload_n 0, 1) := by decide +kernel
theorem d_Swt_deliver_81 : decode (mB m_Swt_deliver) 81 = .ok (.getfield 58, 3) := by decide +kernel
theorem d_Swt_deliver_84 : decode (mB m_Swt_deliver) 84 = .ok (.aload_n 1, 1) := by decide +kernel
theorem d_Swt_deliver_85 : decode (mB m_Swt_deliver) 85 = .ok (.aastore, 1) := by decide +kernel
theorem d_Swt_deliver_86 : decode (mB m_Swt_deliver) 86 = .ok (.aload_n 0, 1) := by decide +kernel
theorem d_Swt_deliver_87 : decode (mB m_Swt_deliver) 87 = .ok (.dup, 1) := by decide +kernel
theorem d_Swt_deliver_88 : decode (mB m_Swt_deliver) 88 = .ok (.getfield 58, 3) := by decide +kernel
theorem d_Swt_deliver_91 : decode (mB m_Swt_deliver) 91 = .ok (.iconst 1, 1) := by decide +kernel
theorem d_Swt_deliver_92 : decode (mB m_Swt_deliver) 92 = .ok (.iadd, 1) := by decide +kernel
theorem d_Swt_deliver_93 : decode (mB m_Swt_deliver) 93 = .ok (.putfield 58, 3) := by decide +kernel
theorem d_Swt_deliver_96 : decode (mB m_Swt_deliver) 96 = .ok (.return_, 1) := by decide +kernel
theorem cal_Swt_deliver : mCal m_Swt_deliver 3 := ⟨Or.inl ⟨rfl, goodIn_r _ [702] (by decide +kernel) (by decide +kernel)⟩, by decide, ⟨by decide, by decide⟩, by decide +kernel⟩
abbrev b_Swt_messageOnDesk : ByteArray := prog_11_method_6_code
def m_Swt_messageOnDesk : Mi := (⟨"TextNet$Switch", "messageOnDesk", "(I)LTextNet$Message;"⟩, b_Swt_messageOnDesk, 2, (some (.object "TextNet$Message")), [])
theorem d_Swt_messageOnDesk_0 : decode (mB m_Swt_messageOnDesk) 0 = .ok (.iload_n 1, 1) := by decide +kernel
theorem d_Swt_messageOnDesk_1 : decode (mB m_Swt_messageOnDesk) 1 = .ok (.ifCond .lt 27, 3) := by decide +kernel
theorem d_Swt_messageOnDesk_4 : decode (mB m_Swt_messageOnDesk) 4 = .ok (.iload_n 1, 1) := by decide +kernel
theorem d_Swt_messageOnDesk_5 : decode (mB m_Swt_messageOnDesk) 5 = .ok (.aload_n 0, 1) := by decide +kernel
theorem d_Swt_messageOnDesk_6 : decode (mB m_Swt_messageOnDesk) 6 = .ok (.getfield 58, 3) := by decide +kernel
theorem d_Swt_messageOnDesk_9 : decode (mB m_Swt_messageOnDesk) 9 = .ok (.if_icmp .ge 19, 3) := by decide +kernel
theorem d_Swt_messageOnDesk_12 : decode (mB m_Swt_messageOnDesk) 12 = .ok (.iload_n 1, 1) := by decide +kernel
theorem d_Swt_messageOnDesk_13 : decode (mB m_Swt_messageOnDesk) 13 = .ok (.sipush 200, 3) := by decide +kernel
theorem d_Swt_messageOnDesk_16 : decode (mB m_Swt_messageOnDesk) 16 = .ok (.if_icmp .ge 12, 3) := by decide +kernel
theorem d_Swt_messageOnDesk_19 : decode (mB m_Swt_messageOnDesk) 19 = .ok (.aload_n 0, 1) := by decide +kernel
theorem d_Swt_messageOnDesk_20 : decode (mB m_Swt_messageOnDesk) 20 = .ok (.getfield 19, 3) := by decide +kernel
theorem d_Swt_messageOnDesk_23 : decode (mB m_Swt_messageOnDesk) 23 = .ok (.iload_n 1, 1) := by decide +kernel
theorem d_Swt_messageOnDesk_24 : decode (mB m_Swt_messageOnDesk) 24 = .ok (.aaload, 1) := by decide +kernel
theorem d_Swt_messageOnDesk_25 : decode (mB m_Swt_messageOnDesk) 25 = .ok (.goto 4, 3) := by decide +kernel
theorem d_Swt_messageOnDesk_28 : decode (mB m_Swt_messageOnDesk) 28 = .ok (.aconst_null, 1) := by decide +kernel
theorem d_Swt_messageOnDesk_29 : decode (mB m_Swt_messageOnDesk) 29 = .ok (.areturn, 1) := by decide +kernel
theorem cal_Swt_messageOnDesk : mCal m_Swt_messageOnDesk 1 := ⟨Or.inl ⟨rfl, goodIn_r _ [931] (by decide +kernel) (by decide +kernel)⟩, by decide, ⟨by decide, by decide⟩, by decide +kernel⟩
