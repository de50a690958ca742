abbrev b_Chn_queue : ByteArray := prog_2_method_2_code
def m_Chn_queue : Mi := (⟨"TextNet$Channel", "queue", "(LTextNet$Copy;)V"⟩, b_Chn_queue, 3, none, [])
theorem d_Chn_queue_0 : decode (mB m_Chn_queue) 0 = .ok (.aload_n 1, 1) := by decide +kernel
theorem d_Chn_queue_1 : decode (mB m_Chn_queue) 1 = .ok (.getfield 40, 3) := by decide +kernel
theorem d_Chn_queue_4 : decode (mB m_Chn_queue) 4 = .ok (.getfield 46, 3) := by decide +kernel
theorem d_Chn_queue_7 : decode (mB m_Chn_queue) 7 = .ok (.istore_n 2, 1) := by decide +kernel
theorem d_Chn_queue_8 : decode (mB m_Chn_queue) 8 = .ok (.iload_n 2, 1) := by decide +kernel
theorem d_Chn_queue_9 : decode (mB m_Chn_queue) 9 = .ok (.ifCond .lt 18, 3) := by decide +kernel
theorem d_Chn_queue_12 : decode (mB m_Chn_queue) 12 = .ok (.iload_n 2, 1) := by decide +kernel
theorem d_Chn_queue_13 : decode (mB m_Chn_queue) 13 = .ok (.iconst 5, 1) := by decide +kernel
theorem d_Chn_queue_14 : decode (mB m_Chn_queue) 14 = .ok (.if_icmp .ge 13, 3) := by decide +kernel
theorem d_Chn_queue_17 : decode (mB m_Chn_queue) 17 = .ok (.aload_n 0, 1) := by decide +kernel
theorem d_Chn_queue_18 : decode (mB m_Chn_queue) 18 = .ok (.getfield 11, 3) := by decide +kernel
theorem d_Chn_queue_21 : decode (mB m_Chn_queue) 21 = .ok (.iload_n 2, 1) := by decide +kernel
theorem d_Chn_queue_22 : decode (mB m_Chn_queue) 22 = .ok (.aaload, 1) := by decide +kernel
theorem d_Chn_queue_23 : decode (mB m_Chn_queue) 23 = .ok (.aload_n 1, 1) := by decide +kernel
theorem d_Chn_queue_24 : decode (mB m_Chn_queue) 24 = .ok (.invokevirtual 51, 3) := by decide +kernel
theorem d_Chn_queue_27 : decode (mB m_Chn_queue) 27 = .ok (.return_, 1) := by decide +kernel
theorem cal_Chn_queue : mCal m_Chn_queue 1 := ⟨Or.inl ⟨rfl, goodIn_r _ [745] (by decide +kernel) (by decide +kernel)⟩, by decide, ⟨by decide, by decide⟩, by decide +kernel⟩
abbrev b_Chn_takeMostUrgent : ByteArray := prog_2_method_3_code
def m_Chn_takeMostUrgent : Mi := (⟨"TextNet$Channel", "takeMostUrgent", "()LTextNet$Copy;"⟩, b_Chn_takeMostUrgent, 3, (some (.object "TextNet$Copy")), [])
theorem d_Chn_takeMostUrgent_0 : decode (mB m_Chn_takeMostUrgent) 0 = .ok (.iconst 0, 1) := by decide +kernel
theorem d_Chn_takeMostUrgent_1 : decode (mB m_Chn_takeMostUrgent) 1 = .ok (.istore_n 1, 1) := by decide +kernel
theorem d_Chn_takeMostUrgent_2 : decode (mB m_Chn_takeMostUrgent) 2 = .ok (.iload_n 1, 1) := by decide +kernel
theorem d_Chn_takeMostUrgent_3 : decode (mB m_Chn_takeMostUrgent) 3 = .ok (.iconst 5, 1) := by decide +kernel
theorem d_Chn_takeMostUrgent_4 : decode (mB m_Chn_takeMostUrgent) 4 = .ok (.if_icmp .ge 25, 3) := by decide +kernel
theorem d_Chn_takeMostUrgent_7 : decode (mB m_Chn_takeMostUrgent) 7 = .ok (.aload_n 0, 1) := by decide +kernel
theorem d_Chn_takeMostUrgent_8 : decode (mB m_Chn_takeMostUrgent) 8 = .ok (.getfield 11, 3) := by decide +kernel
theorem d_Chn_takeMostUrgent_11 : decode (mB m_Chn_takeMostUrgent) 11 = .ok (.iload_n 1, 1) := by decide +kernel
theorem d_Chn_takeMostUrgent_12 : decode (mB m_Chn_takeMostUrgent) 12 = .ok (.aaload, 1) := by decide +kernel
theorem d_Chn_takeMostUrgent_13 : decode (mB m_Chn_takeMostUrgent) 13 = .ok (.invokevirtual 55, 3) := by decide +kernel
theorem d_Chn_takeMostUrgent_16 : decode (mB m_Chn_takeMostUrgent) 16 = .ok (.astore_n 2, 1) := by decide +kernel
theorem d_Chn_takeMostUrgent_17 : decode (mB m_Chn_takeMostUrgent) 17 = .ok (.aload_n 2, 1) := by decide +kernel
theorem d_Chn_takeMostUrgent_18 : decode (mB m_Chn_takeMostUrgent) 18 = .ok (.ifnull 5, 3) := by decide +kernel
theorem d_Chn_takeMostUrgent_21 : decode (mB m_Chn_takeMostUrgent) 21 = .ok (.aload_n 2, 1) := by decide +kernel
theorem d_Chn_takeMostUrgent_22 : decode (mB m_Chn_takeMostUrgent) 22 = .ok (.areturn, 1) := by decide +kernel
theorem d_Chn_takeMostUrgent_23 : decode (mB m_Chn_takeMostUrgent) 23 = .ok (.iinc 1 1, 3) := by decide +kernel
theorem d_Chn_takeMostUrgent_26 : decode (mB m_Chn_takeMostUrgent) 26 = .ok (.goto (-24), 3) := by decide +kernel
theorem d_Chn_takeMostUrgent_29 : decode (mB m_Chn_takeMostUrgent) 29 = .ok (.aconst_null, 1) := by decide +kernel
theorem d_Chn_takeMostUrgent_30 : decode (mB m_Chn_takeMostUrgent) 30 = .ok (.areturn, 1) := by decide +kernel
theorem cal_Chn_takeMostUrgent : mCal m_Chn_takeMostUrgent 0 := ⟨Or.inl ⟨rfl, goodIn_r _ [781] (by decide +kernel) (by decide +kernel)⟩, by decide, ⟨by decide, by decide⟩, by decide +kernel⟩
abbrev b_Chn_sendNext : ByteArray := prog_2_method_4_code
def m_Chn_sendNext : Mi := (⟨"TextNet$Channel", "sendNext", "(I)I"⟩, b_Chn_sendNext, 5, (some .int), [])
theorem d_Chn_sendNext_0 : decode (mB m_Chn_sendNext) 0 = .ok (.aload_n 0, 1) := by decide +kernel
theorem d_Chn_sendNext_1 : decode (mB m_Chn_sendNext) 1 = .ok (.getfield 22, 3) := by decide +kernel
theorem d_Chn_sendNext_4 : decode (mB m_Chn_sendNext) 4 = .ok (.invokevirtual 59, 3) := by decide +kernel
theorem d_Chn_sendNext_7 : decode (mB m_Chn_sendNext) 7 = .ok (.ifCond .eq 5, 3) := by decide +kernel
theorem d_Chn_sendNext_10 : decode (mB m_Chn_sendNext) 10 = .ok (.iconst 0, 1) := by decide +kernel
theorem d_Chn_sendNext_11 : decode (mB m_Chn_sendNext) 11 = .ok (.ireturn, 1) := by decide +kernel
theorem d_Chn_sendNext_12 : decode (mB m_Chn_sendNext) 12 = .ok (.aload_n 0, 1) := by decide +kernel
theorem d_Chn_sendNext_13 : decode (mB m_Chn_sendNext) 13 = .ok (.invokevirtual 63, 3) := by decide +kernel
theorem d_Chn_sendNext_16 : decode (mB m_Chn_sendNext) 16 = .ok (.astore_n 2, 1) := by decide +kernel
theorem d_Chn_sendNext_17 : decode (mB m_Chn_sendNext) 17 = .ok (.aload_n 2, 1) := by decide +kernel
theorem d_Chn_sendNext_18 : decode (mB m_Chn_sendNext) 18 = .ok (.ifnonnull 5, 3) := by decide +kernel
theorem d_Chn_sendNext_21 : decode (mB m_Chn_sendNext) 21 = .ok (.iconst 0, 1) := by decide +kernel
theorem d_Chn_sendNext_22 : decode (mB m_Chn_sendNext) 22 = .ok (.ireturn, 1) := by decide +kernel
theorem d_Chn_sendNext_23 : decode (mB m_Chn_sendNext) 23 = .ok (.aload_n 0, 1) := by decide +kernel
theorem d_Chn_sendNext_24 : decode (mB m_Chn_sendNext) 24 = .ok (.getfield 29, 3) := by decide +kernel
theorem d_Chn_sendNext_27 : decode (mB m_Chn_sendNext) 27 = .ok (.istore_n 3, 1) := by decide +kernel
theorem d_Chn_sendNext_28 : decode (mB m_Chn_sendNext) 28 = .ok (.aload_n 0, 1) := by decide +kernel
theorem d_Chn_sendNext_29 : decode (mB m_Chn_sendNext) 29 = .ok (.iload_n 3, 1) := by decide +kernel
theorem d_Chn_sendNext_30 : decode (mB m_Chn_sendNext) 30 = .ok (.invokestatic 66, 3) := by decide +kernel
theorem d_Chn_sendNext_33 : decode (mB m_Chn_sendNext) 33 = .ok (.putfield 29, 3) := by decide +kernel
theorem d_Chn_sendNext_36 : decode (mB m_Chn_sendNext) 36 = .ok (.new 70, 3) := by decide +kernel
theorem d_Chn_sendNext_39 : decode (mB m_Chn_sendNext) 39 = .ok (.dup, 1) := by decide +kernel
theorem d_Chn_sendNext_40 : decode (mB m_Chn_sendNext) 40 = .ok (.iload_n 3, 1) := by decide +kernel
theorem d_Chn_sendNext_41 : decode (mB m_Chn_sendNext) 41 = .ok (.aload_n 2, 1) := by decide +kernel
theorem d_Chn_sendNext_42 : decode (mB m_Chn_sendNext) 42 = .ok (.iconst 0, 1) := by decide +kernel
theorem d_Chn_sendNext_43 : decode (mB m_Chn_sendNext) 43 = .ok (.invokespecial 72, 3) := by decide +kernel
theorem d_Chn_sendNext_46 : decode (mB m_Chn_sendNext) 46 = .ok (.astore 4, 2) := by decide +kernel
theorem d_Chn_sendNext_48 : decode (mB m_Chn_sendNext) 48 = .ok (.aload_n 0, 1) := by decide +kernel
theorem d_Chn_sendNext_49 : decode (mB m_Chn_sendNext) 49 = .ok (.getfield 22, 3) := by decide +kernel
theorem d_Chn_sendNext_52 : decode (mB m_Chn_sendNext) 52 = .ok (.aload 4, 2) := by decide +kernel
theorem d_Chn_sendNext_54 : decode (mB m_Chn_sendNext) 54 = .ok (.invokevirtual 75, 3) := by decide +kernel
theorem d_Chn_sendNext_57 : decode (mB m_Chn_sendNext) 57 = .ok (.aload_n 0, 1) := by decide +kernel
theorem d_Chn_sendNext_58 : decode (mB m_Chn_sendNext) 58 = .ok (.aload 4, 2) := by decide +kernel
theorem d_Chn_sendNext_60 : decode (mB m_Chn_sendNext) 60 = .ok (.iload_n 1, 1) := by decide +kernel
theorem d_Chn_sendNext_61 : decode (mB m_Chn_sendNext) 61 = .ok (.invokevirtual 78, 3) := by decide +kernel
theorem d_Chn_sendNext_64 : decode (mB m_Chn_sendNext) 64 = .ok (.iload_n 3, 1) := by decide +kernel
theorem d_Chn_sendNext_65 : decode (mB m_Chn_sendNext) 65 = .ok (.ireturn, 1) := by decide +kernel
theorem cal_Chn_sendNext : mCal m_Chn_sendNext 1 := ⟨Or.inl ⟨rfl, goodIn_r _ [773] (by decide +kernel) (by decide +kernel)⟩, by decide, ⟨by decide, by decide⟩, by decide +kernel⟩
abbrev b_Chn_putMessage : ByteArray := prog_2_method_5_code
def m_Chn_putMessage : Mi := (⟨"TextNet$Channel", "putMessage", "(LTextNet$Frame;I)V"⟩, b_Chn_putMessage, 3, none, [])
theorem d_Chn_putMessage_0 : decode (mB m_Chn_putMessage) 0 = .ok (.aload_n 0, 1) := by decide +kernel
theorem d_Chn_putMessage_1 : decode (mB m_Chn_putMessage) 1 = .ok (.getfield 26, 3) := by decide +kernel
theorem d_Chn_putMessage_4 : decode (mB m_Chn_putMessage) 4 = .ok (.aload_n 1, 1) := by decide +kernel
theorem d_Chn_putMessage_5 : decode (mB m_Chn_putMessage) 5 = .ok (.invokevirtual 75, 3) := by decide +kernel
theorem d_Chn_putMessage_8 : decode (mB m_Chn_putMessage) 8 = .ok (.aload_n 0, 1) := by decide +kernel
theorem d_Chn_putMessage_9 : decode (mB m_Chn_putMessage) 9 = .ok (.iload_n 2, 1) := by decide +kernel
theorem d_Chn_putMessage_10 : decode (mB m_Chn_putMessage) 10 = .ok (.putfield 82, 3) := by decide +kernel
theorem d_Chn_putMessage_13 : decode (mB m_Chn_putMessage) 13 = .ok (.return_, 1) := by decide +kernel
theorem cal_Chn_putMessage : mCal m_Chn_putMessage 2 := ⟨Or.inl ⟨rfl, goodIn_r _ [821] (by decide +kernel) (by decide +kernel)⟩, by decide, ⟨by decide, by decide⟩, by decide +kernel⟩
abbrev b_Chn_putAcknowledgement : ByteArray := prog_2_method_6_code
def m_Chn_putAcknowledgement : Mi := (⟨"TextNet$Channel", "putAcknowledgement", "(I)V"⟩, b_Chn_putAcknowledgement, 2, none, [])
theorem d_Chn_putAcknowledgement_0 : decode (mB m_Chn_putAcknowledgement) 0 = .ok (.aload_n 0, 1) := by decide +kernel
theorem d_Chn_putAcknowledgement_1 : decode (mB m_Chn_putAcknowledgement) 1 = .ok (.getfield 26, 3) := by decide +kernel
theorem d_Chn_putAcknowledgement_4 : decode (mB m_Chn_putAcknowledgement) 4 = .ok (.new 70, 3) := by decide +kernel
theorem d_Chn_putAcknowledgement_7 : decode (mB m_Chn_putAcknowledgement) 7 = .ok (.dup, 1) := by decide +kernel
theorem d_Chn_putAcknowledgement_8 : decode (mB m_Chn_putAcknowledgement) 8 = .ok (.iload_n 1, 1) := by decide +kernel
theorem d_Chn_putAcknowledgement_9 : decode (mB m_Chn_putAcknowledgement) 9 = .ok (.aconst_null, 1) := by decide +kernel
theorem d_Chn_putAcknowledgement_10 : decode (mB m_Chn_putAcknowledgement) 10 = .ok (.iconst 0, 1) := by decide +kernel
theorem d_Chn_putAcknowledgement_11 : decode (mB m_Chn_putAcknowledgement) 11 = .ok (.invokespecial 72, 3) := by decide +kernel
theorem d_Chn_putAcknowledgement_14 : decode (mB m_Chn_putAcknowledgement) 14 = .ok (.invokevirtual 75, 3) := by decide +kernel
theorem d_Chn_putAcknowledgement_17 : decode (mB m_Chn_putAcknowledgement) 17 = .ok (.return_, 1) := by decide +kernel
theorem cal_Chn_putAcknowledgement : mCal m_Chn_putAcknowledgement 1 := ⟨Or.inl ⟨rfl, goodIn_r _ [848] (by decide +kernel) (by decide +kernel)⟩, by decide, ⟨by decide, by decide⟩, by decide +kernel⟩
abbrev b_Chn_putRequest : ByteArray := prog_2_method_7_code
def m_Chn_putRequest : Mi := (⟨"TextNet$Channel", "putRequest", "(II)V"⟩, b_Chn_putRequest, 3, none, [])
theorem d_Chn_putRequest_0 : decode (mB m_Chn_putRequest) 0 = .ok (.iload_n 2, 1) := by decide +kernel
theorem d_Chn_putRequest_1 : decode (mB m_Chn_putRequest) 1 = .ok (.aload_n 0, 1) := by decide +kernel
theorem d_Chn_putRequest_2 : decode (mB m_Chn_putRequest) 2 = .ok (.getfield 36, 3) := by decide +kernel
theorem d_Chn_putRequest_5 : decode (mB m_Chn_putRequest) 5 = .ok (.isub, 1) := by decide +kernel
theorem d_Chn_putRequest_6 : decode (mB m_Chn_putRequest) 6 = .ok (.iconst 3, 1) := by decide +kernel
theorem d_Chn_putRequest_7 : decode (mB m_Chn_putRequest) 7 = .ok (.if_icmp .lt 25, 3) := by decide +kernel
theorem d_Chn_putRequest_10 : decode (mB m_Chn_putRequest) 10 = .ok (.aload_n 0, 1) := by decide +kernel
theorem d_Chn_putRequest_11 : decode (mB m_Chn_putRequest) 11 = .ok (.getfield 26, 3) := by decide +kernel
theorem d_Chn_putRequest_14 : decode (mB m_Chn_putRequest) 14 = .ok (.new 70, 3) := by decide +kernel
theorem d_Chn_putRequest_17 : decode (mB m_Chn_putRequest) 17 = .ok (.dup, 1) := by decide +kernel
theorem d_Chn_putRequest_18 : decode (mB m_Chn_putRequest) 18 = .ok (.iload_n 1, 1) := by decide +kernel
theorem d_Chn_putRequest_19 : decode (mB m_Chn_putRequest) 19 = .ok (.aconst_null, 1) := by decide +kernel
theorem d_Chn_putRequest_20 : decode (mB m_Chn_putRequest) 20 = .ok (.iconst 1, 1) := by decide +kernel
theorem d_Chn_putRequest_21 : decode (mB m_Chn_putRequest) 21 = .ok (.invokespecial 72, 3) := by decide +kernel
theorem d_Chn_putRequest_24 : decode (mB m_Chn_putRequest) 24 = .ok (.invokevirtual 75, 3) := by decide +kernel
theorem d_Chn_putRequest_27 : decode (mB m_Chn_putRequest) 27 = .ok (.aload_n 0, 1) := by decide +kernel
theorem d_Chn_putRequest_28 : decode (mB m_Chn_putRequest) 28 = .ok (.iload_n 2, 1) := by decide +kernel
theorem d_Chn_putRequest_29 : decode (mB m_Chn_putRequest) 29 = .ok (.putfield 36, 3) := by decide +kernel
theorem d_Chn_putRequest_32 : decode (mB m_Chn_putRequest) 32 = .ok (.return_, 1) := by decide +kernel
theorem cal_Chn_putRequest : mCal m_Chn_putRequest 2 := ⟨Or.inl ⟨rfl, goodIn_r _ [852] (by decide +kernel) (by decide +kernel)⟩, by decide, ⟨by decide, by decide⟩, by decide +kernel⟩
abbrev b_Chn_freeUpTo : ByteArray := prog_2_method_8_code
def m_Chn_freeUpTo : Mi := (⟨"TextNet$Channel", "freeUpTo", "(I)V"⟩, b_Chn_freeUpTo, 4, none, [])
theorem d_Chn_freeUpTo_0 : decode (mB m_Chn_freeUpTo) 0 = .ok (.aload_n 0, 1) := by decide +kernel
theorem d_Chn_freeUpTo_1 : decode (mB m_Chn_freeUpTo) 1 = .ok (.getfield 22, 3) := by decide +kernel
theorem d_Chn_freeUpTo_4 : decode (mB m_Chn_freeUpTo) 4 = .ok (.iload_n 1, 1) := by decide +kernel
theorem d_Chn_freeUpTo_5 : decode (mB m_Chn_freeUpTo) 5 = .ok (.invokevirtual 85, 3) := by decide +kernel
theorem d_Chn_freeUpTo_8 : decode (mB m_Chn_freeUpTo) 8 = .ok (.istore_n 2, 1) := by decide +kernel
theorem d_Chn_freeUpTo_9 : decode (mB m_Chn_freeUpTo) 9 = .ok (.iconst 0, 1) := by decide +kernel
theorem d_Chn_freeUpTo_10 : decode (mB m_Chn_freeUpTo) 10 = .ok (.istore_n 3, 1) := by decide +kernel
theorem d_Chn_freeUpTo_11 : decode (mB m_Chn_freeUpTo) 11 = .ok (.iload_n 3, 1) := by decide +kernel
theorem d_Chn_freeUpTo_12 : decode (mB m_Chn_freeUpTo) 12 = .ok (.iload_n 2, 1) := by decide +kernel
theorem d_Chn_freeUpTo_13 : decode (mB m_Chn_freeUpTo) 13 = .ok (.if_icmp .gt 17, 3) := by decide +kernel
theorem d_Chn_freeUpTo_16 : decode (mB m_Chn_freeUpTo) 16 = .ok (.aload_n 0, 1) := by decide +kernel
theorem d_Chn_freeUpTo_17 : decode (mB m_Chn_freeUpTo) 17 = .ok (.getfield 22, 3) := by decide +kernel
theorem d_Chn_freeUpTo_20 : decode (mB m_Chn_freeUpTo) 20 = .ok (.invokevirtual 88, 3) := by decide +kernel
theorem d_Chn_freeUpTo_23 : decode (mB m_Chn_freeUpTo) 23 = .ok (.pop, 1) := by decide +kernel
theorem d_Chn_freeUpTo_24 : decode (mB m_Chn_freeUpTo) 24 = .ok (.iinc 3 1, 3) := by decide +kernel
theorem d_Chn_freeUpTo_27 : decode (mB m_Chn_freeUpTo) 27 = .ok (.goto (-16), 3) := by decide +kernel
theorem d_Chn_freeUpTo_30 : decode (mB m_Chn_freeUpTo) 30 = .ok (.return_, 1) := by decide +kernel
theorem cal_Chn_freeUpTo : mCal m_Chn_freeUpTo 1 := ⟨Or.inl ⟨rfl, goodIn_r _ [868] (by decide +kernel) (by decide +kernel)⟩, by decide, ⟨by decide, by decide⟩, by decide +kernel⟩
abbrev b_Chn_sendAgainFrom : ByteArray := prog_2_method_9_code
def m_Chn_sendAgainFrom : Mi := (⟨"TextNet$Channel", "sendAgainFrom", "(II)V"⟩, b_Chn_sendAgainFrom, 5, none, [])
theorem d_Chn_sendAgainFrom_0 : decode (mB m_Chn_sendAgainFrom) 0 = .ok (.aload_n 0, 1) := by decide +kernel
theorem d_Chn_sendAgainFrom_1 : decode (mB m_Chn_sendAgainFrom) 1 = .ok (.getfield 22, 3) := by decide +kernel
theorem d_Chn_sendAgainFrom_4 : decode (mB m_Chn_sendAgainFrom) 4 = .ok (.iload_n 1, 1) := by decide +kernel
theorem d_Chn_sendAgainFrom_5 : decode (mB m_Chn_sendAgainFrom) 5 = .ok (.invokevirtual 85, 3) := by decide +kernel
theorem d_Chn_sendAgainFrom_8 : decode (mB m_Chn_sendAgainFrom) 8 = .ok (.istore_n 3, 1) := by decide +kernel
theorem d_Chn_sendAgainFrom_9 : decode (mB m_Chn_sendAgainFrom) 9 = .ok (.iload_n 3, 1) := by decide +kernel
theorem d_Chn_sendAgainFrom_10 : decode (mB m_Chn_sendAgainFrom) 10 = .ok (.iconst (-1), 1) := by decide +kernel
theorem d_Chn_sendAgainFrom_11 : decode (mB m_Chn_sendAgainFrom) 11 = .ok (.if_icmp .ne 4, 3) := by decide +kernel
theorem d_Chn_sendAgainFrom_14 : decode (mB m_Chn_sendAgainFrom) 14 = .ok (.return_, 1) := by decide +kernel
theorem d_Chn_sendAgainFrom_15 : decode (mB m_Chn_sendAgainFrom) 15 = .ok (.iload_n 3, 1) := by decide +kernel
theorem d_Chn_sendAgainFrom_16 : decode (mB m_Chn_sendAgainFrom) 16 = .ok (.istore 4, 2) := by decide +kernel
theorem d_Chn_sendAgainFrom_18 : decode (mB m_Chn_sendAgainFrom) 18 = .ok (.iload 4, 2) := by decide +kernel
theorem d_Chn_sendAgainFrom_20 : decode (mB m_Chn_sendAgainFrom) 20 = .ok (.aload_n 0, 1) := by decide +kernel
theorem d_Chn_sendAgainFrom_21 : decode (mB m_Chn_sendAgainFrom) 21 = .ok (.getfield 22, 3) := by decide +kernel
theorem d_Chn_sendAgainFrom_24 : decode (mB m_Chn_sendAgainFrom) 24 = .ok (.getfield 91, 3) := by decide +kernel
theorem d_Chn_sendAgainFrom_27 : decode (mB m_Chn_sendAgainFrom) 27 = .ok (.if_icmp .ge 23, 3) := by decide +kernel
theorem d_Chn_sendAgainFrom_30 : decode (mB m_Chn_sendAgainFrom) 30 = .ok (.aload_n 0, 1) := by decide +kernel
theorem d_Chn_sendAgainFrom_31 : decode (mB m_Chn_sendAgainFrom) 31 = .ok (.aload_n 0, 1) := by decide +kernel
theorem d_Chn_sendAgainFrom_32 : decode (mB m_Chn_sendAgainFrom) 32 = .ok (.getfield 22, 3) := by decide +kernel
theorem d_Chn_sendAgainFrom_35 : decode (mB m_Chn_sendAgainFrom) 35 = .ok (.iload 4, 2) := by decide +kernel
theorem d_Chn_sendAgainFrom_37 : decode (mB m_Chn_sendAgainFrom) 37 = .ok (.invokevirtual 94, 3) := by decide +kernel
theorem d_Chn_sendAgainFrom_40 : decode (mB m_Chn_sendAgainFrom) 40 = .ok (.iload_n 2, 1) := by decide +kernel
theorem d_Chn_sendAgainFrom_41 : decode (mB m_Chn_sendAgainFrom) 41 = .ok (.invokevirtual 78, 3) := by decide +kernel
theorem d_Chn_sendAgainFrom_44 : decode (mB m_Chn_sendAgainFrom) 44 = .ok (.iinc 4 1, 3) := by decide +kernel
theorem d_Chn_sendAgainFrom_47 : decode (mB m_Chn_sendAgainFrom) 47 = .ok (.goto (-29), 3) := by decide +kernel
theorem d_Chn_sendAgainFrom_50 : decode (mB m_Chn_sendAgainFrom) 50 = .ok (.return_, 1) := by decide +kernel
theorem cal_Chn_sendAgainFrom : mCal m_Chn_sendAgainFrom 2 := ⟨Or.inl ⟨rfl, goodIn_r _ [859] (by decide +kernel) (by decide +kernel)⟩, by decide, ⟨by decide, by decide⟩, by decide +kernel⟩
abbrev b_Chn_remind : ByteArray := prog_2_method_10_code
def m_Chn_remind : Mi := (⟨"TextNet$Channel", "remind", "(I)I"⟩, b_Chn_remind, 3, (some .int), [])
theorem d_Chn_remind_0 : decode (mB m_Chn_remind) 0 = .ok (.aload_n 0, 1) := by decide +kernel
theorem d_Chn_remind_1 : decode (mB m_Chn_remind) 1 = .ok (.getfield 22, 3) := by decide +kernel
theorem d_Chn_remind_4 : decode (mB m_Chn_remind) 4 = .ok (.iconst 0, 1) := by decide +kernel
theorem d_Chn_remind_5 : decode (mB m_Chn_remind) 5 = .ok (.invokevirtual 94, 3) := by decide +kernel
theorem d_Chn_remind_8 : decode (mB m_Chn_remind) 8 = .ok (.astore_n 2, 1) := by decide +kernel
theorem d_Chn_remind_9 : decode (mB m_Chn_remind) 9 = .ok (.aload_n 2, 1) := by decide +kernel
theorem d_Chn_remind_10 : decode (mB m_Chn_remind) 10 = .ok (.ifnull 13, 3) := by decide +kernel
theorem d_Chn_remind_13 : decode (mB m_Chn_remind) 13 = .ok (.iload_n 1, 1) := by decide +kernel
theorem d_Chn_remind_14 : decode (mB m_Chn_remind) 14 = .ok (.aload_n 0, 1) := by decide +kernel
theorem d_Chn_remind_15 : decode (mB m_Chn_remind) 15 = .ok (.getfield 82, 3) := by decide +kernel
theorem d_Chn_remind_18 : decode (mB m_Chn_remind) 18 = .ok (.isub, 1) := by decide +kernel
theorem d_Chn_remind_19 : decode (mB m_Chn_remind) 19 = .ok (.iconst 5, 1) := by decide +kernel
theorem d_Chn_remind_20 : decode (mB m_Chn_remind) 20 = .ok (.if_icmp .ge 5, 3) := by decide +kernel
theorem d_Chn_remind_23 : decode (mB m_Chn_remind) 23 = .ok (.iconst 0, 1) := by decide +kernel
theorem d_Chn_remind_24 : decode (mB m_Chn_remind) 24 = .ok (.ireturn, 1) := by decide +kernel
theorem d_Chn_remind_25 : decode (mB m_Chn_remind) 25 = .ok (.aload_n 0, 1) := by decide +kernel
theorem d_Chn_remind_26 : decode (mB m_Chn_remind) 26 = .ok (.aload_n 2, 1) := by decide +kernel
theorem d_Chn_remind_27 : decode (mB m_Chn_remind) 27 = .ok (.iload_n 1, 1) := by decide +kernel
theorem d_Chn_remind_28 : decode (mB m_Chn_remind) 28 = .ok (.invokevirtual 78, 3) := by decide +kernel
theorem d_Chn_remind_31 : decode (mB m_Chn_remind) 31 = .ok (.iconst 1, 1) := by decide +kernel
theorem d_Chn_remind_32 : decode (mB m_Chn_remind) 32 = .ok (.ireturn, 1) := by decide +kernel
theorem cal_Chn_remind : mCal m_Chn_remind 1 := ⟨Or.inl ⟨rfl, goodIn_r _ [913] (by decide +kernel) (by decide +kernel)⟩, by decide, ⟨by decide, by decide⟩, by decide +kernel⟩
abbrev b_Cpy_init : ByteArray := prog_3_method_1_code
def m_Cpy_init : Mi := (⟨"TextNet$Copy", "<init>", "(LTextNet$Message;II)V"⟩, b_Cpy_init, 4, none, [])
theorem d_Cpy_init_0 : decode (mB m_Cpy_init) 0 = .ok (.aload_n 0, 1) := by decide +kernel
theorem d_Cpy_init_1 : decode (mB m_Cpy_init) 1 = .ok (.invokespecial 1, 3) := by decide +kernel
theorem d_Cpy_init_4 : decode (mB m_Cpy_init) 4 = .ok (.aload_n 0, 1) := by decide +kernel
theorem d_Cpy_init_5 : decode (mB m_Cpy_init) 5 = .ok (.aload_n 1, 1) := by decide +kernel
theorem d_Cpy_init_6 : decode (mB m_Cpy_init) 6 = .ok (.putfield 7, 3) := by decide +kernel
theorem d_Cpy_init_9 : decode (mB m_Cpy_init) 9 = .ok (.aload_n 0, 1) := by decide +kernel
theorem d_Cpy_init_10 : decode (mB m_Cpy_init) 10 = .ok (.iload_n 2, 1) := by decide +kernel
theorem d_Cpy_init_11 : decode (mB m_Cpy_init) 11 = .ok (.putfield 13, 3) := by decide +kernel
theorem d_Cpy_init_14 : decode (mB m_Cpy_init) 14 = .ok (.aload_n 0, 1) := by decide +kernel
theorem d_Cpy_init_15 : decode (mB m_Cpy_init) 15 = .ok (.iload_n 3, 1) := by decide +kernel
theorem d_Cpy_init_16 : decode (mB m_Cpy_init) 16 = .ok (.putfield 17, 3) := by decide +kernel
theorem d_Cpy_init_19 : decode (mB m_Cpy_init) 19 = .ok (.return_, 1) := by decide +kernel
theorem cal_Cpy_init : mCal m_Cpy_init 3 := ⟨Or.inl ⟨rfl, goodIn_r _ [723] (by decide +kernel) (by decide +kernel)⟩, by decide, ⟨by decide, by decide⟩, by decide +kernel⟩
abbrev b_Lst_init : ByteArray := prog_4_method_1_code
def m_Lst_init : Mi := (⟨"TextNet$CopyList", "<init>", "()V"⟩, b_Lst_init, 1, none, [])
theorem d_Lst_init_0 : decode (mB m_Lst_init) 0 = .ok (.aload_n 0, 1) := by decide +kernel
theorem d_Lst_init_1 : decode (mB m_Lst_init) 1 = .ok (.invokespecial 1, 3) := by decide +kernel
theorem d_Lst_init_4 : decode (mB m_Lst_init) 4 = .ok (.return_, 1) := by decide +kernel
theorem cal_Lst_init : mCal m_Lst_init 0 := ⟨Or.inl ⟨rfl, goodIn_r _ [121] (by decide +kernel) (by decide +kernel)⟩, by decide, ⟨by decide, by decide⟩, by decide +kernel⟩
abbrev b_Lst_add : ByteArray := prog_4_method_2_code
def m_Lst_add : Mi := (⟨"TextNet$CopyList", "add", "(LTextNet$Copy;)V"⟩, b_Lst_add, 2, none, [])
theorem d_Lst_add_0 : decode (mB m_Lst_add) 0 = .ok (.aload_n 0, 1) := by decide +kernel
theorem d_Lst_add_1 : decode (mB m_Lst_add) 1 = .ok (.getfield 7, 3) := by decide +kernel
theorem d_Lst_add_4 : decode (mB m_Lst_add) 4 = .ok (.ifnonnull 11, 3) := by decide +kernel
theorem d_Lst_add_7 : decode (mB m_Lst_add) 7 = .ok (.aload_n 0, 1) := by decide +kernel
theorem d_Lst_add_8 : decode (mB m_Lst_add) 8 = .ok (.aload_n 1, 1) := by decide +kernel
theorem d_Lst_add_9 : decode (mB m_Lst_add) 9 = .ok (.putfield 13, 3) := by decide +kernel
theorem d_Lst_add_12 : decode (mB m_Lst_add) 12 = .ok (.goto 11, 3) := by decide +kernel
theorem d_Lst_add_15 : decode (mB m_Lst_add) 15 = .ok (.aload_n 0, 1) := by decide +kernel
theorem d_Lst_add_16 : decode (mB m_Lst_add) 16 = .ok (.getfield 7, 3) := by decide +kernel
theorem d_Lst_add_19 : decode (mB m_Lst_add) 19 = .ok (.aload_n 1, 1) := by decide +kernel
theorem d_Lst_add_20 : decode (mB m_Lst_add) 20 = .ok (.putfield 16, 3) := by decide +kernel
theorem d_Lst_add_23 : decode (mB m_Lst_add) 23 = .ok (.aload_n 0, 1) := by decide +kernel
theorem d_Lst_add_24 : decode (mB m_Lst_add) 24 = .ok (.aload_n 1, 1) := by decide +kernel
theorem d_Lst_add_25 : decode (mB m_Lst_add) 25 = .ok (.putfield 7, 3) := by decide +kernel
theorem d_Lst_add_28 : decode (mB m_Lst_add) 28 = .ok (.aload_n 0, 1) := by decide +kernel
theorem d_Lst_add_29 : decode (mB m_Lst_add) 29 = .ok (.dup, 1) := by decide +kernel
theorem d_Lst_add_30 : decode (mB m_Lst_add) 30 = .ok (.getfield 21, 3) := by decide +kernel
theorem d_Lst_add_33 : decode (mB m_Lst_add) 33 = .ok (.iconst 1, 1) := by decide +kernel
theorem d_Lst_add_34 : decode (mB m_Lst_add) 34 = .ok (.iadd, 1) := by decide +kernel
theorem d_Lst_add_35 : decode (mB m_Lst_add) 35 = .ok (.putfield 21, 3) := by decide +kernel
theorem d_Lst_add_38 : decode (mB m_Lst_add) 38 = .ok (.return_, 1) := by decide +kernel
theorem cal_Lst_add : mCal m_Lst_add 1 := ⟨Or.inl ⟨rfl, goodIn_r _ [749] (by decide +kernel) (by decide +kernel)⟩, by decide, ⟨by decide, by decide⟩, by decide +kernel⟩
abbrev b_Lst_takeFirst : ByteArray := prog_4_method_3_code
def m_Lst_takeFirst : Mi := (⟨"TextNet$CopyList", "takeFirst", "()LTextNet$Copy;"⟩, b_Lst_takeFirst, 2, (some (.object "TextNet$Copy")), [])
theorem d_Lst_takeFirst_0 : decode (mB m_Lst_takeFirst) 0 = .ok (.aload_n 0, 1) := by decide +kernel
theorem d_Lst_takeFirst_1 : decode (mB m_Lst_takeFirst) 1 = .ok (.getfield 13, 3) := by decide +kernel
theorem d_Lst_takeFirst_4 : decode (mB m_Lst_takeFirst) 4 = .ok (.astore_n 1, 1) := by decide +kernel
theorem d_Lst_takeFirst_5 : decode (mB m_Lst_takeFirst) 5 = .ok (.aload_n 1, 1) := by decide +kernel
theorem d_Lst_takeFirst_6 : decode (mB m_Lst_takeFirst) 6 = .ok (.ifnonnull 5, 3) := by decide +kernel
theorem d_Lst_takeFirst_9 : decode (mB m_Lst_takeFirst) 9 = .ok (.aconst_null, 1) := by decide +kernel
theorem d_Lst_takeFirst_10 : decode (mB m_Lst_takeFirst) 10 = .ok (.areturn, 1) := by decide +kernel
theorem d_Lst_takeFirst_11 : decode (mB m_Lst_takeFirst) 11 = .ok (.aload_n 0, 1) := by decide +kernel
theorem d_Lst_takeFirst_12 : decode (mB m_Lst_takeFirst) 12 = .ok (.aload_n 1, 1) := by decide +kernel
theorem d_Lst_takeFirst_13 : decode (mB m_Lst_takeFirst) 13 = .ok (.getfield 16, 3) := by decide +kernel
theorem d_Lst_takeFirst_16 : decode (mB m_Lst_takeFirst) 16 = .ok (.putfield 13, 3) := by decide +kernel
theorem d_Lst_takeFirst_19 : decode (mB m_Lst_takeFirst) 19 = .ok (.aload_n 0, 1) := by decide +kernel
theorem d_Lst_takeFirst_20 : decode (mB m_Lst_takeFirst) 20 = .ok (.getfield 13, 3) := by decide +kernel
theorem d_Lst_takeFirst_23 : decode (mB m_Lst_takeFirst) 23 = .ok (.ifnonnull 8, 3) := by decide +kernel
theorem d_Lst_takeFirst_26 : decode (mB m_Lst_takeFirst) 26 = .ok (.aload_n 0, 1) := by decide +kernel
theorem d_Lst_takeFirst_27 : decode (mB m_Lst_takeFirst) 27 = .ok (.aconst_null, 1) := by decide +kernel
theorem d_Lst_takeFirst_28 : decode (mB m_Lst_takeFirst) 28 = .ok (.putfield 7, 3) := by decide +kernel
theorem d_Lst_takeFirst_31 : decode (mB m_Lst_takeFirst) 31 = .ok (.aload_n 1, 1) := by decide +kernel
theorem d_Lst_takeFirst_32 : decode (mB m_Lst_takeFirst) 32 = .ok (.aconst_null, 1) := by decide +kernel
theorem d_Lst_takeFirst_33 : decode (mB m_Lst_takeFirst) 33 = .ok (.putfield 16, 3) := by decide +kernel
theorem d_Lst_takeFirst_36 : decode (mB m_Lst_takeFirst) 36 = .ok (.aload_n 0, 1) := by decide +kernel
theorem d_Lst_takeFirst_37 : decode (mB m_Lst_takeFirst) 37 = .ok (.dup, 1) := by decide +kernel
theorem d_Lst_takeFirst_38 : decode (mB m_Lst_takeFirst) 38 = .ok (.getfield 21, 3) := by decide +kernel
theorem d_Lst_takeFirst_41 : decode (mB m_Lst_takeFirst) 41 = .ok (.iconst 1, 1) := by decide +kernel
theorem d_Lst_takeFirst_42 : decode (mB m_Lst_takeFirst) 42 = .ok (.isub, 1) := by decide +kernel
theorem d_Lst_takeFirst_43 : decode (mB m_Lst_takeFirst) 43 = .ok (.putfield 21, 3) := by decide +kernel
theorem d_Lst_takeFirst_46 : decode (mB m_Lst_takeFirst) 46 = .ok (.aload_n 1, 1) := by decide +kernel
theorem d_Lst_takeFirst_47 : decode (mB m_Lst_takeFirst) 47 = .ok (.areturn, 1) := by decide +kernel
theorem cal_Lst_takeFirst : mCal m_Lst_takeFirst 0 := ⟨Or.inl ⟨rfl, goodIn_r _ [785] (by decide +kernel) (by decide +kernel)⟩, by decide, ⟨by decide, by decide⟩, by decide +kernel⟩
abbrev b_Drf_init : ByteArray := prog_5_method_1_code
def m_Drf_init : Mi := (⟨"TextNet$Draft", "<init>", "()V"⟩, b_Drf_init, 1, none, [])
theorem d_Drf_init_0 : decode (mB m_Drf_init) 0 = .ok (.aload_n 0, 1) := by decide +kernel
theorem d_Drf_init_1 : decode (mB m_Drf_init) 1 = .ok (.invokespecial 3, 3) := by decide +kernel
theorem d_Drf_init_4 : decode (mB m_Drf_init) 4 = .ok (.aload_n 0, 1) := by decide +kernel
theorem d_Drf_init_5 : decode (mB m_Drf_init) 5 = .ok (.sipush 1600, 3) := by decide +kernel
theorem d_Drf_init_8 : decode (mB m_Drf_init) 8 = .ok (.newarray .byte, 2) := by decide +kernel
theorem d_Drf_init_10 : decode (mB m_Drf_init) 10 = .ok (.putfield 9, 3) := by decide +kernel
theorem d_Drf_init_13 : decode (mB m_Drf_init) 13 = .ok (.aload_n 0, 1) := by decide +kernel
theorem d_Drf_init_14 : decode (mB m_Drf_init) 14 = .ok (.bipush 7, 2) := by decide +kernel
theorem d_Drf_init_16 : decode (mB m_Drf_init) 16 = .ok (.newarray .long, 2) := by decide +kernel
theorem d_Drf_init_18 : decode (mB m_Drf_init) 18 = .ok (.putfield 15, 3) := by decide +kernel
theorem d_Drf_init_21 : decode (mB m_Drf_init) 21 = .ok (.return_, 1) := by decide +kernel
theorem cal_Drf_init : mCal m_Drf_init 0 := ⟨Or.inl ⟨rfl, goodIn_r _ [76] (by decide +kernel) (by decide +kernel)⟩, by decide, ⟨by decide, by decide⟩, by decide +kernel⟩
abbrev b_Drf_write : ByteArray := prog_5_method_2_code
def m_Drf_write : Mi := (⟨"TextNet$Draft", "write", "(II)V"⟩, b_Drf_write, 5, none, [])
theorem d_Drf_write_0 : decode (mB m_Drf_write) 0 = .ok (.iconst 0, 1) := by decide +kernel
theorem d_Drf_write_1 : decode (mB m_Drf_write) 1 = .ok (.istore_n 3, 1) := by decide +kernel
theorem d_Drf_write_2 : decode (mB m_Drf_write) 2 = .ok (.iload_n 3, 1) := by decide +kernel
theorem d_Drf_write_3 : decode (mB m_Drf_write) 3 = .ok (.iconst 4, 1) := by decide +kernel
theorem d_Drf_write_4 : decode (mB m_Drf_write) 4 = .ok (.if_icmp .ge 41, 3) := by decide +kernel
theorem d_Drf_write_7 : decode (mB m_Drf_write) 7 = .ok (.iload_n 1, 1) := by decide +kernel
theorem d_Drf_write_8 : decode (mB m_Drf_write) 8 = .ok (.iload_n 3, 1) := by decide +kernel
theorem d_Drf_write_9 : decode (mB m_Drf_write) 9 = .ok (.iadd, 1) := by decide +kernel
theorem d_Drf_write_10 : decode (mB m_Drf_write) 10 = .ok (.istore 4, 2) := by decide +kernel
theorem d_Drf_write_12 : decode (mB m_Drf_write) 12 = .ok (.iload 4, 2) := by decide +kernel
theorem d_Drf_write_14 : decode (mB m_Drf_write) 14 = .ok (.ifCond .lt 25, 3) := by decide +kernel
theorem d_Drf_write_17 : decode (mB m_Drf_write) 17 = .ok (.iload 4, 2) := by decide +kernel
theorem d_Drf_write_19 : decode (mB m_Drf_write) 19 = .ok (.sipush 1600, 3) := by decide +kernel
theorem d_Drf_write_22 : decode (mB m_Drf_write) 22 = .ok (.if_icmp .ge 17, 3) := by decide +kernel
theorem d_Drf_write_25 : decode (mB m_Drf_write) 25 = .ok (.aload_n 0, 1) := by decide +kernel
theorem d_Drf_write_26 : decode (mB m_Drf_write) 26 = .ok (.getfield 9, 3) := by decide +kernel
theorem d_Drf_write_29 : decode (mB m_Drf_write) 29 = .ok (.iload 4, 2) := by decide +kernel
theorem d_Drf_write_31 : decode (mB m_Drf_write) 31 = .ok (.iload_n 2, 1) := by decide +kernel
theorem d_Drf_write_32 : decode (mB m_Drf_write) 32 = .ok (.bipush 8, 2) := by decide +kernel
theorem d_Drf_write_34 : decode (mB m_Drf_write) 34 = .ok (.iload_n 3, 1) := by decide +kernel
theorem d_Drf_write_35 : decode (mB m_Drf_write) 35 = .ok (.imul, 1) := by decide +kernel
theorem d_Drf_write_36 : decode (mB m_Drf_write) 36 = .ok (.iushr, 1) := by decide +kernel
theorem d_Drf_write_37 : decode (mB m_Drf_write) 37 = .ok (.i2b, 1) := by decide +kernel
theorem d_Drf_write_38 : decode (mB m_Drf_write) 38 = .ok (.bastore, 1) := by decide +kernel
theorem d_Drf_write_39 : decode (mB m_Drf_write) 39 = .ok (.iinc 3 1, 3) := by decide +kernel
theorem d_Drf_write_42 : decode (mB m_Drf_write) 42 = .ok (.goto (-40), 3) := by decide +kernel
theorem d_Drf_write_45 : decode (mB m_Drf_write) 45 = .ok (.return_, 1) := by decide +kernel
theorem cal_Drf_write : mCal m_Drf_write 2 := ⟨Or.inl ⟨rfl, goodIn_r _ [444] (by decide +kernel) (by decide +kernel)⟩, by decide, ⟨by decide, by decide⟩, by decide +kernel⟩
abbrev b_Drf_isGood : ByteArray := prog_5_method_3_code
def m_Drf_isGood : Mi := (⟨"TextNet$Draft", "isGood", "(I)Z"⟩, b_Drf_isGood, 2, (some .boolean), [])
theorem d_Drf_isGood_0 : decode (mB m_Drf_isGood) 0 = .ok (.aload_n 0, 1) := by decide +kernel
theorem d_Drf_isGood_1 : decode (mB m_Drf_isGood) 1 = .ok (.iload_n 1, 1) := by decide +kernel
theorem d_Drf_isGood_2 : decode (mB m_Drf_isGood) 2 = .ok (.putfield 19, 3) := by decide +kernel
theorem d_Drf_isGood_5 : decode (mB m_Drf_isGood) 5 = .ok (.aload_n 0, 1) := by decide +kernel
theorem d_Drf_isGood_6 : decode (mB m_Drf_isGood) 6 = .ok (.iconst 0, 1) := by decide +kernel
theorem d_Drf_isGood_7 : decode (mB m_Drf_isGood) 7 = .ok (.putfield 23, 3) := by decide +kernel
theorem d_Drf_isGood_10 : decode (mB m_Drf_isGood) 10 = .ok (.aload_n 0, 1) := by decide +kernel
theorem d_Drf_isGood_11 : decode (mB m_Drf_isGood) 11 = .ok (.invokevirtual 26, 3) := by decide +kernel
theorem d_Drf_isGood_14 : decode (mB m_Drf_isGood) 14 = .ok (.ifCond .eq 28, 3) := by decide +kernel
theorem d_Drf_isGood_17 : decode (mB m_Drf_isGood) 17 = .ok (.aload_n 0, 1) := by decide +kernel
theorem d_Drf_isGood_18 : decode (mB m_Drf_isGood) 18 = .ok (.invokevirtual 30, 3) := by decide +kernel
theorem d_Drf_isGood_21 : decode (mB m_Drf_isGood) 21 = .ok (.ifCond .eq 21, 3) := by decide +kernel
theorem d_Drf_isGood_24 : decode (mB m_Drf_isGood) 24 = .ok (.aload_n 0, 1) := by decide +kernel
theorem d_Drf_isGood_25 : decode (mB m_Drf_isGood) 25 = .ok (.invokevirtual 33, 3) := by decide +kernel
theorem d_Drf_isGood_28 : decode (mB m_Drf_isGood) 28 = .ok (.ifCond .eq 14, 3) := by decide +kernel
theorem d_Drf_isGood_31 : decode (mB m_Drf_isGood) 31 = .ok (.aload_n 0, 1) := by decide +kernel
theorem d_Drf_isGood_32 : decode (mB m_Drf_isGood) 32 = .ok (.invokevirtual 36, 3) := by decide +kernel
theorem d_Drf_isGood_35 : decode (mB m_Drf_isGood) 35 = .ok (.ifCond .eq 7, 3) := by decide +kernel
theorem d_Drf_isGood_38 : decode (mB m_Drf_isGood) 38 = .ok (.iconst 1, 1) := by decide +kernel
theorem d_Drf_isGood_39 : decode (mB m_Drf_isGood) 39 = .ok (.goto 4, 3) := by decide +kernel
theorem d_Drf_isGood_42 : decode (mB m_Drf_isGood) 42 = .ok (.iconst 0, 1) := by decide +kernel
theorem d_Drf_isGood_43 : decode (mB m_Drf_isGood) 43 = .ok (.ireturn, 1) := by decide +kernel
theorem cal_Drf_isGood : mCal m_Drf_isGood 1 := ⟨Or.inl ⟨rfl, goodIn_r _ [457] (by decide +kernel) (by decide +kernel)⟩, by decide, ⟨by decide, by decide⟩, by decide +kernel⟩
abbrev b_Drf_toMessage : ByteArray := prog_5_method_4_code
def m_Drf_toMessage : Mi := (⟨"TextNet$Draft", "toMessage", "()LTextNet$Message;"⟩, b_Drf_toMessage, 2, (some (.object "TextNet$Message")), [])
theorem d_Drf_toMessage_0 : decode (mB m_Drf_toMessage) 0 = .ok (.aload_n 0, 1) := by decide +kernel
theorem d_Drf_toMessage_1 : decode (mB m_Drf_toMessage) 1 = .ok (.getfield 9, 3) := by decide +kernel
theorem d_Drf_toMessage_4 : decode (mB m_Drf_toMessage) 4 = .ok (.aload_n 0, 1) := by decide +kernel
theorem d_Drf_toMessage_5 : decode (mB m_Drf_toMessage) 5 = .ok (.getfield 19, 3) := by decide +kernel
theorem d_Drf_toMessage_8 : decode (mB m_Drf_toMessage) 8 = .ok (.invokestatic 39, 3) := by decide +kernel
theorem d_Drf_toMessage_11 : decode (mB m_Drf_toMessage) 11 = .ok (.astore_n 1, 1) := by decide +kernel
theorem d_Drf_toMessage_12 : decode (mB m_Drf_toMessage) 12 = .ok (.new 45, 3) := by decide +kernel
theorem d_Drf_toMessage_15 : decode (mB m_Drf_toMessage) 15 = .ok (.dup, 1) := by decide +kernel
theorem d_Drf_toMessage_16 : decode (mB m_Drf_toMessage) 16 = .ok (.aload_n 1, 1) := by decide +kernel
theorem d_Drf_toMessage_17 : decode (mB m_Drf_toMessage) 17 = .ok (.aload_n 0, 1) := by decide +kernel
theorem d_Drf_toMessage_18 : decode (mB m_Drf_toMessage) 18 = .ok (.getfield 15, 3) := by decide +kernel
theorem d_Drf_toMessage_21 : decode (mB m_Drf_toMessage) 21 = .ok (.aload_n 0, 1) := by decide +kernel
theorem d_Drf_toMessage_22 : decode (mB m_Drf_toMessage) 22 = .ok (.getfield 23, 3) := by decide +kernel
theorem d_Drf_toMessage_25 : decode (mB m_Drf_toMessage) 25 = .ok (.invokestatic 47, 3) := by decide +kernel
theorem d_Drf_toMessage_28 : decode (mB m_Drf_toMessage) 28 = .ok (.aload_n 0, 1) := by decide +kernel
theorem d_Drf_toMessage_29 : decode (mB m_Drf_toMessage) 29 = .ok (.getfield 50, 3) := by decide +kernel
theorem d_Drf_toMessage_32 : decode (mB m_Drf_toMessage) 32 = .ok (.invokespecial 53, 3) := by decide +kernel
theorem d_Drf_toMessage_35 : decode (mB m_Drf_toMessage) 35 = .ok (.areturn, 1) := by decide +kernel
theorem cal_Drf_toMessage : mCal m_Drf_toMessage 0 := ⟨Or.inl ⟨rfl, goodIn_r _ [631] (by decide +kernel) (by decide +kernel)⟩, by decide, ⟨by decide, by decide⟩, by decide +kernel⟩
abbrev b_Drf_byteAt : ByteArray := prog_5_method_5_code
def m_Drf_byteAt : Mi := (⟨"TextNet$Draft", "byteAt", "(I)I"⟩, b_Drf_byteAt, 2, (some .int), [])
theorem d_Drf_byteAt_0 : decode (mB m_Drf_byteAt) 0 = .ok (.iload_n 1, 1) := by decide +kernel
theorem d_Drf_byteAt_1 : decode (mB m_Drf_byteAt) 1 = .ok (.ifCond .lt 31, 3) := by decide +kernel
theorem d_Drf_byteAt_4 : decode (mB m_Drf_byteAt) 4 = .ok (.iload_n 1, 1) := by decide +kernel
theorem d_Drf_byteAt_5 : decode (mB m_Drf_byteAt) 5 = .ok (.aload_n 0, 1) := by decide +kernel
theorem d_Drf_byteAt_6 : decode (mB m_Drf_byteAt) 6 = .ok (.getfield 19, 3) := by decide +kernel
theorem d_Drf_byteAt_9 : decode (mB m_Drf_byteAt) 9 = .ok (.if_icmp .ge 23, 3) := by decide +kernel
theorem d_Drf_byteAt_12 : decode (mB m_Drf_byteAt) 12 = .ok (.iload_n 1, 1) := by decide +kernel
theorem d_Drf_byteAt_13 : decode (mB m_Drf_byteAt) 13 = .ok (.sipush 1600, 3) := by decide +kernel
theorem d_Drf_byteAt_16 : decode (mB m_Drf_byteAt) 16 = .ok (.if_icmp .ge 16, 3) := by decide +kernel
theorem d_Drf_byteAt_19 : decode (mB m_Drf_byteAt) 19 = .ok (.aload_n 0, 1) := by decide +kernel
theorem d_Drf_byteAt_20 : decode (mB m_Drf_byteAt) 20 = .ok (.getfield 9, 3) := by decide +kernel
theorem d_Drf_byteAt_23 : decode (mB m_Drf_byteAt) 23 = .ok (.iload_n 1, 1) := by decide +kernel
theorem d_Drf_byteAt_24 : decode (mB m_Drf_byteAt) 24 = .ok (.baload, 1) := by decide +kernel
theorem d_Drf_byteAt_25 : decode (mB m_Drf_byteAt) 25 = .ok (.sipush 255, 3) := by decide +kernel
theorem d_Drf_byteAt_28 : decode (mB m_Drf_byteAt) 28 = .ok (.iand, 1) := by decide +kernel
theorem d_Drf_byteAt_29 : decode (mB m_Drf_byteAt) 29 = .ok (.goto 4, 3) := by decide +kernel
theorem d_Drf_byteAt_32 : decode (mB m_Drf_byteAt) 32 = .ok (.iconst (-1), 1) := by decide +kernel
theorem d_Drf_byteAt_33 : decode (mB m_Drf_byteAt) 33 = .ok (.ireturn, 1) := by decide +kernel
theorem cal_Drf_byteAt : mCal m_Drf_byteAt 1 := ⟨Or.inl ⟨rfl, goodIn_r _ [465] (by decide +kernel) (by decide +kernel)⟩, by decide, ⟨by decide, by decide⟩, by decide +kernel⟩
abbrev b_Drf_tell : ByteArray := prog_5_method_6_code
def m_Drf_tell : Mi := (⟨"TextNet$Draft", "tell", "(II)Z"⟩, b_Drf_tell, 3, (some .boolean), [])
theorem d_Drf_tell_0 : decode (mB m_Drf_tell) 0 = .ok (.aload_n 0, 1) := by decide +kernel
theorem d_Drf_tell_1 : decode (mB m_Drf_tell) 1 = .ok (.iconst (-1), 1) := by decide +kernel
theorem d_Drf_tell_2 : decode (mB m_Drf_tell) 2 = .ok (.bipush 10, 2) := by decide +kernel
theorem d_Drf_tell_4 : decode (mB m_Drf_tell) 4 = .ok (.iload_n 2, 1) := by decide +kernel
theorem d_Drf_tell_5 : decode (mB m_Drf_tell) 5 = .ok (.imul, 1) := by decide +kernel
theorem d_Drf_tell_6 : decode (mB m_Drf_tell) 6 = .ok (.isub, 1) := by decide +kernel
theorem d_Drf_tell_7 : decode (mB m_Drf_tell) 7 = .ok (.iload_n 1, 1) := by decide +kernel
theorem d_Drf_tell_8 : decode (mB m_Drf_tell) 8 = .ok (.isub, 1) := by decide +kernel
theorem d_Drf_tell_9 : decode (mB m_Drf_tell) 9 = .ok (.putfield 56, 3) := by decide +kernel
theorem d_Drf_tell_12 : decode (mB m_Drf_tell) 12 = .ok (.iconst 0, 1) := by decide +kernel
theorem d_Drf_tell_13 : decode (mB m_Drf_tell) 13 = .ok (.ireturn, 1) := by decide +kernel
theorem cal_Drf_tell : mCal m_Drf_tell 2 := ⟨Or.inl ⟨rfl, goodIn_r _ [554] (by decide +kernel) (by decide +kernel)⟩, by decide, ⟨by decide, by decide⟩, by decide +kernel⟩
abbrev b_Drf_readPriority : ByteArray := prog_5_method_7_code
def m_Drf_readPriority : Mi := (⟨"TextNet$Draft", "readPriority", "()Z"⟩, b_Drf_readPriority, 3, (some .boolean), [])
theorem d_Drf_readPriority_0 : decode (mB m_Drf_readPriority) 0 = .ok (.aload_n 0, 1) := by decide +kernel
theorem d_Drf_readPriority_1 : decode (mB m_Drf_readPriority) 1 = .ok (.iconst 0, 1) := by decide +kernel
theorem d_Drf_readPriority_2 : decode (mB m_Drf_readPriority) 2 = .ok (.invokevirtual 59, 3) := by decide +kernel
theorem d_Drf_readPriority_5 : decode (mB m_Drf_readPriority) 5 = .ok (.istore_n 1, 1) := by decide +kernel
theorem d_Drf_readPriority_6 : decode (mB m_Drf_readPriority) 6 = .ok (.aload_n 0, 1) := by decide +kernel
theorem d_Drf_readPriority_7 : decode (mB m_Drf_readPriority) 7 = .ok (.iconst 1, 1) := by decide +kernel
theorem d_Drf_readPriority_8 : decode (mB m_Drf_readPriority) 8 = .ok (.invokevirtual 59, 3) := by decide +kernel
theorem d_Drf_readPriority_11 : decode (mB m_Drf_readPriority) 11 = .ok (.istore_n 2, 1) := by decide +kernel
theorem d_Drf_readPriority_12 : decode (mB m_Drf_readPriority) 12 = .ok (.aload_n 0, 1) := by decide +kernel
theorem d_Drf_readPriority_13 : decode (mB m_Drf_readPriority) 13 = .ok (.iload_n 1, 1) := by decide +kernel
theorem d_Drf_readPriority_14 : decode (mB m_Drf_readPriority) 14 = .ok (.ifCond .ge 7, 3) := by decide +kernel
theorem d_Drf_readPriority_17 : decode (mB m_Drf_readPriority) 17 = .ok (.iconst (-1), 1) := by decide +kernel
theorem d_Drf_readPriority_18 : decode (mB m_Drf_readPriority) 18 = .ok (.goto 10, 3) := by decide +kernel
theorem d_Drf_readPriority_21 : decode (mB m_Drf_readPriority) 21 = .ok (.ldc 63, 2) := by decide +kernel
theorem d_Drf_readPriority_23 : decode (mB m_Drf_readPriority) 23 = .ok (.iload_n 1, 1) := by decide +kernel
theorem d_Drf_readPriority_24 : decode (mB m_Drf_readPriority) 24 = .ok (.i2c, 1) := by decide +kernel
theorem d_Drf_readPriority_25 : decode (mB m_Drf_readPriority) 25 = .ok (.invokevirtual 65, 3) := by decide +kernel
theorem d_Drf_readPriority_28 : decode (mB m_Drf_readPriority) 28 = .ok (.putfield 50, 3) := by decide +kernel
theorem d_Drf_readPriority_31 : decode (mB m_Drf_readPriority) 31 = .ok (.aload_n 0, 1) := by decide +kernel
theorem d_Drf_readPriority_32 : decode (mB m_Drf_readPriority) 32 = .ok (.getfield 50, 3) := by decide +kernel
theorem d_Drf_readPriority_35 : decode (mB m_Drf_readPriority) 35 = .ok (.ifCond .ge 10, 3) := by decide +kernel
theorem d_Drf_readPriority_38 : decode (mB m_Drf_readPriority) 38 = .ok (.aload_n 0, 1) := by decide +kernel
theorem d_Drf_readPriority_39 : decode (mB m_Drf_readPriority) 39 = .ok (.iconst 1, 1) := by decide +kernel
theorem d_Drf_readPriority_40 : decode (mB m_Drf_readPriority) 40 = .ok (.iconst 0, 1) := by decide +kernel
theorem d_Drf_readPriority_41 : decode (mB m_Drf_readPriority) 41 = .ok (.invokevirtual 70, 3) := by decide +kernel
theorem d_Drf_readPriority_44 : decode (mB m_Drf_readPriority) 44 = .ok (.ireturn, 1) := by decide +kernel
theorem d_Drf_readPriority_45 : decode (mB m_Drf_readPriority) 45 = .ok (.iload_n 2, 1) := by decide +kernel
theorem d_Drf_readPriority_46 : decode (mB m_Drf_readPriority) 46 = .ok (.iconst (-1), 1) := by decide +kernel
theorem d_Drf_readPriority_47 : decode (mB m_Drf_readPriority) 47 = .ok (.if_icmp .ne 10, 3) := by decide +kernel
theorem d_Drf_readPriority_50 : decode (mB m_Drf_readPriority) 50 = .ok (.aload_n 0, 1) := by decide +kernel
theorem d_Drf_readPriority_51 : decode (mB m_Drf_readPriority) 51 = .ok (.iconst 1, 1) := by decide +kernel
theorem d_Drf_readPriority_52 : decode (mB m_Drf_readPriority) 52 = .ok (.iconst 1, 1) := by decide +kernel
theorem d_Drf_readPriority_53 : decode (mB m_Drf_readPriority) 53 = .ok (.invokevirtual 70, 3) := by decide +kernel
theorem d_Drf_readPriority_56 : decode (mB m_Drf_readPriority) 56 = .ok (.ireturn, 1) := by decide +kernel
theorem d_Drf_readPriority_57 : decode (mB m_Drf_readPriority) 57 = .ok (.iload_n 2, 1) := by decide +kernel
theorem d_Drf_readPriority_58 : decode (mB m_Drf_readPriority) 58 = .ok (.iload_n 1, 1) := by decide +kernel
theorem d_Drf_readPriority_59 : decode (mB m_Drf_readPriority) 59 = .ok (.if_icmp .eq 10, 3) := by decide +kernel
theorem d_Drf_readPriority_62 : decode (mB m_Drf_readPriority) 62 = .ok (.aload_n 0, 1) := by decide +kernel
theorem d_Drf_readPriority_63 : decode (mB m_Drf_readPriority) 63 = .ok (.iconst 1, 1) := by decide +kernel
theorem d_Drf_readPriority_64 : decode (mB m_Drf_readPriority) 64 = .ok (.iconst 0, 1) := by decide +kernel
theorem d_Drf_readPriority_65 : decode (mB m_Drf_readPriority) 65 = .ok (.invokevirtual 70, 3) := by decide +kernel
theorem d_Drf_readPriority_68 : decode (mB m_Drf_readPriority) 68 = .ok (.ireturn, 1) := by decide +kernel
theorem d_Drf_readPriority_69 : decode (mB m_Drf_readPriority) 69 = .ok (.aload_n 0, 1) := by decide +kernel
theorem d_Drf_readPriority_70 : decode (mB m_Drf_readPriority) 70 = .ok (.iconst 2, 1) := by decide +kernel
theorem d_Drf_readPriority_71 : decode (mB m_Drf_readPriority) 71 = .ok (.putfield 74, 3) := by decide +kernel
theorem d_Drf_readPriority_74 : decode (mB m_Drf_readPriority) 74 = .ok (.aload_n 0, 1) := by decide +kernel
theorem d_Drf_readPriority_75 : decode (mB m_Drf_readPriority) 75 = .ok (.bipush 10, 2) := by decide +kernel
theorem d_Drf_readPriority_77 : decode (mB m_Drf_readPriority) 77 = .ok (.iconst 1, 1) := by decide +kernel
theorem d_Drf_readPriority_78 : decode (mB m_Drf_readPriority) 78 = .ok (.invokevirtual 77, 3) := by decide +kernel
theorem d_Drf_readPriority_81 : decode (mB m_Drf_readPriority) 81 = .ok (.ireturn, 1) := by decide +kernel
theorem cal_Drf_readPriority : mCal m_Drf_readPriority 0 := ⟨Or.inl ⟨rfl, goodIn_r _ [461] (by decide +kernel) (by decide +kernel)⟩, by decide, ⟨by decide, by decide⟩, by decide +kernel⟩
abbrev b_Drf_readAddresses : ByteArray := prog_5_method_8_code
def m_Drf_readAddresses : Mi := (⟨"TextNet$Draft", "readAddresses", "()Z"⟩, b_Drf_readAddresses, 5, (some .boolean), [])
theorem d_Drf_readAddresses_0 : decode (mB m_Drf_readAddresses) 0 = .ok (.iconst 0, 1) := by decide +kernel
theorem d_Drf_readAddresses_1 : decode (mB m_Drf_readAddresses) 1 = .ok (.istore_n 1, 1) := by decide +kernel
theorem d_Drf_readAddresses_2 : decode (mB m_Drf_readAddresses) 2 = .ok (.iload_n 1, 1) := by decide +kernel
theorem d_Drf_readAddresses_3 : decode (mB m_Drf_readAddresses) 3 = .ok (.bipush 7, 2) := by decide +kernel
theorem d_Drf_readAddresses_5 : decode (mB m_Drf_readAddresses) 5 = .ok (.if_icmp .ge 96, 3) := by decide +kernel
theorem d_Drf_readAddresses_8 : decode (mB m_Drf_readAddresses) 8 = .ok (.aload_n 0, 1) := by decide +kernel
theorem d_Drf_readAddresses_9 : decode (mB m_Drf_readAddresses) 9 = .ok (.getfield 74, 3) := by decide +kernel
theorem d_Drf_readAddresses_12 : decode (mB m_Drf_readAddresses) 12 = .ok (.istore_n 2, 1) := by decide +kernel
theorem d_Drf_readAddresses_13 : decode (mB m_Drf_readAddresses) 13 = .ok (.aload_n 0, 1) := by decide +kernel
theorem d_Drf_readAddresses_14 : decode (mB m_Drf_readAddresses) 14 = .ok (.iconst 2, 1) := by decide +kernel
theorem d_Drf_readAddresses_15 : decode (mB m_Drf_readAddresses) 15 = .ok (.invokevirtual 80, 3) := by decide +kernel
theorem d_Drf_readAddresses_18 : decode (mB m_Drf_readAddresses) 18 = .ok (.ifCond .ne 5, 3) := by decide +kernel
theorem d_Drf_readAddresses_21 : decode (mB m_Drf_readAddresses) 21 = .ok (.iconst 0, 1) := by decide +kernel
theorem d_Drf_readAddresses_22 : decode (mB m_Drf_readAddresses) 22 = .ok (.ireturn, 1) := by decide +kernel
theorem d_Drf_readAddresses_23 : decode (mB m_Drf_readAddresses) 23 = .ok (.aload_n 0, 1) := by decide +kernel
theorem d_Drf_readAddresses_24 : decode (mB m_Drf_readAddresses) 24 = .ok (.iload_n 2, 1) := by decide +kernel
theorem d_Drf_readAddresses_25 : decode (mB m_Drf_readAddresses) 25 = .ok (.invokevirtual 84, 3) := by decide +kernel
theorem d_Drf_readAddresses_28 : decode (mB m_Drf_readAddresses) 28 = .ok (.lstore_n 3, 1) := by decide +kernel
theorem d_Drf_readAddresses_29 : decode (mB m_Drf_readAddresses) 29 = .ok (.aload_n 0, 1) := by decide +kernel
theorem d_Drf_readAddresses_30 : decode (mB m_Drf_readAddresses) 30 = .ok (.lload_n 3, 1) := by decide +kernel
theorem d_Drf_readAddresses_31 : decode (mB m_Drf_readAddresses) 31 = .ok (.invokevirtual 88, 3) := by decide +kernel
theorem d_Drf_readAddresses_34 : decode (mB m_Drf_readAddresses) 34 = .ok (.ifCond .eq 10, 3) := by decide +kernel
theorem d_Drf_readAddresses_37 : decode (mB m_Drf_readAddresses) 37 = .ok (.aload_n 0, 1) := by decide +kernel
theorem d_Drf_readAddresses_38 : decode (mB m_Drf_readAddresses) 38 = .ok (.iconst 3, 1) := by decide +kernel
theorem d_Drf_readAddresses_39 : decode (mB m_Drf_readAddresses) 39 = .ok (.iload_n 2, 1) := by decide +kernel
theorem d_Drf_readAddresses_40 : decode (mB m_Drf_readAddresses) 40 = .ok (.invokevirtual 70, 3) := by decide +kernel
theorem d_Drf_readAddresses_43 : decode (mB m_Drf_readAddresses) 43 = .ok (.ireturn, 1) := by decide +kernel
theorem d_Drf_readAddresses_44 : decode (mB m_Drf_readAddresses) 44 = .ok (.aload_n 0, 1) := by decide +kernel
theorem d_Drf_readAddresses_45 : decode (mB m_Drf_readAddresses) 45 = .ok (.getfield 15, 3) := by decide +kernel
theorem d_Drf_readAddresses_48 : decode (mB m_Drf_readAddresses) 48 = .ok (.iload_n 1, 1) := by decide +kernel
theorem d_Drf_readAddresses_49 : decode (mB m_Drf_readAddresses) 49 = .ok (.lload_n 3, 1) := by decide +kernel
theorem d_Drf_readAddresses_50 : decode (mB m_Drf_readAddresses) 50 = .ok (.lastore, 1) := by decide +kernel
theorem d_Drf_readAddresses_51 : decode (mB m_Drf_readAddresses) 51 = .ok (.aload_n 0, 1) := by decide +kernel
theorem d_Drf_readAddresses_52 : decode (mB m_Drf_readAddresses) 52 = .ok (.iload_n 1, 1) := by decide +kernel
theorem d_Drf_readAddresses_53 : decode (mB m_Drf_readAddresses) 53 = .ok (.iconst 1, 1) := by decide +kernel
theorem d_Drf_readAddresses_54 : decode (mB m_Drf_readAddresses) 54 = .ok (.iadd, 1) := by decide +kernel
theorem d_Drf_readAddresses_55 : decode (mB m_Drf_readAddresses) 55 = .ok (.putfield 23, 3) := by decide +kernel
theorem d_Drf_readAddresses_58 : decode (mB m_Drf_readAddresses) 58 = .ok (.aload_n 0, 1) := by decide +kernel
theorem d_Drf_readAddresses_59 : decode (mB m_Drf_readAddresses) 59 = .ok (.aload_n 0, 1) := by decide +kernel
theorem d_Drf_readAddresses_60 : decode (mB m_Drf_readAddresses) 60 = .ok (.getfield 74, 3) := by decide +kernel
theorem d_Drf_readAddresses_63 : decode (mB m_Drf_readAddresses) 63 = .ok (.invokevirtual 59, 3) := by decide +kernel
theorem d_Drf_readAddresses_66 : decode (mB m_Drf_readAddresses) 66 = .ok (.bipush 10, 2) := by decide +kernel
theorem d_Drf_readAddresses_68 : decode (mB m_Drf_readAddresses) 68 = .ok (.if_icmp .ne 15, 3) := by decide +kernel
theorem d_Drf_readAddresses_71 : decode (mB m_Drf_readAddresses) 71 = .ok (.aload_n 0, 1) := by decide +kernel
theorem d_Drf_readAddresses_72 : decode (mB m_Drf_readAddresses) 72 = .ok (.dup, 1) := by decide +kernel
theorem d_Drf_readAddresses_73 : decode (mB m_Drf_readAddresses) 73 = .ok (.getfield 74, 3) := by decide +kernel
theorem d_Drf_readAddresses_76 : decode (mB m_Drf_readAddresses) 76 = .ok (.iconst 1, 1) := by decide +kernel
theorem d_Drf_readAddresses_77 : decode (mB m_Drf_readAddresses) 77 = .ok (.iadd, 1) := by decide +kernel
theorem d_Drf_readAddresses_78 : decode (mB m_Drf_readAddresses) 78 = .ok (.putfield 74, 3) := by decide +kernel
theorem d_Drf_readAddresses_81 : decode (mB m_Drf_readAddresses) 81 = .ok (.iconst 1, 1) := by decide +kernel
theorem d_Drf_readAddresses_82 : decode (mB m_Drf_readAddresses) 82 = .ok (.ireturn, 1) := by decide +kernel
theorem d_Drf_readAddresses_83 : decode (mB m_Drf_readAddresses) 83 = .ok (.aload_n 0, 1) := by decide +kernel
theorem d_Drf_readAddresses_84 : decode (mB m_Drf_readAddresses) 84 = .ok (.bipush 32, 2) := by decide +kernel
theorem d_Drf_readAddresses_86 : decode (mB m_Drf_readAddresses) 86 = .ok (.iconst 2, 1) := by decide +kernel
theorem d_Drf_readAddresses_87 : decode (mB m_Drf_readAddresses) 87 = .ok (.invokevirtual 77, 3) := by decide +kernel
theorem d_Drf_readAddresses_90 : decode (mB m_Drf_readAddresses) 90 = .ok (.ifCond .ne 5, 3) := by decide +kernel
theorem d_Drf_readAddresses_93 : decode (mB m_Drf_readAddresses) 93 = .ok (.iconst 0, 1) := by decide +kernel
theorem d_Drf_readAddresses_94 : decode (mB m_Drf_readAddresses) 94 = .ok (.ireturn, 1) := by decide +kernel
theorem d_Drf_readAddresses_95 : decode (mB m_Drf_readAddresses) 95 = .ok (.iinc 1 1, 3) := by decide +kernel
theorem d_Drf_readAddresses_98 : decode (mB m_Drf_readAddresses) 98 = .ok (.goto (-96), 3) := by decide +kernel
theorem d_Drf_readAddresses_101 : decode (mB m_Drf_readAddresses) 101 = .ok (.aload_n 0, 1) := by decide +kernel
theorem d_Drf_readAddresses_102 : decode (mB m_Drf_readAddresses) 102 = .ok (.iconst 4, 1) := by decide +kernel
theorem d_Drf_readAddresses_103 : decode (mB m_Drf_readAddresses) 103 = .ok (.aload_n 0, 1) := by decide +kernel
theorem d_Drf_readAddresses_104 : decode (mB m_Drf_readAddresses) 104 = .ok (.getfield 74, 3) := by decide +kernel
theorem d_Drf_readAddresses_107 : decode (mB m_Drf_readAddresses) 107 = .ok (.iconst 1, 1) := by decide +kernel
theorem d_Drf_readAddresses_108 : decode (mB m_Drf_readAddresses) 108 = .ok (.isub, 1) := by decide +kernel
theorem d_Drf_readAddresses_109 : decode (mB m_Drf_readAddresses) 109 = .ok (.invokevirtual 70, 3) := by decide +kernel
theorem d_Drf_readAddresses_112 : decode (mB m_Drf_readAddresses) 112 = .ok (.ireturn, 1) := by decide +kernel
theorem cal_Drf_readAddresses : mCal m_Drf_readAddresses 0 := ⟨Or.inl ⟨rfl, goodIn_r _ [562] (by decide +kernel) (by decide +kernel)⟩, by decide, ⟨by decide, by decide⟩, by decide +kernel⟩
abbrev b_Drf_isThere : ByteArray := prog_5_method_9_code
def m_Drf_isThere : Mi := (⟨"TextNet$Draft", "isThere", "(J)Z"⟩, b_Drf_isThere, 4, (some .boolean), [])
theorem d_Drf_isThere_0 : decode (mB m_Drf_isThere) 0 = .ok (.iconst 0, 1) := by decide +kernel
theorem d_Drf_isThere_1 : decode (mB m_Drf_isThere) 1 = .ok (.istore_n 3, 1) := by decide +kernel
theorem d_Drf_isThere_2 : decode (mB m_Drf_isThere) 2 = .ok (.iload_n 3, 1) := by decide +kernel
theorem d_Drf_isThere_3 : decode (mB m_Drf_isThere) 3 = .ok (.aload_n 0, 1) := by decide +kernel
theorem d_Drf_isThere_4 : decode (mB m_Drf_isThere) 4 = .ok (.getfield 23, 3) := by decide +kernel
theorem d_Drf_isThere_7 : decode (mB m_Drf_isThere) 7 = .ok (.if_icmp .ge 28, 3) := by decide +kernel
theorem d_Drf_isThere_10 : decode (mB m_Drf_isThere) 10 = .ok (.iload_n 3, 1) := by decide +kernel
theorem d_Drf_isThere_11 : decode (mB m_Drf_isThere) 11 = .ok (.bipush 7, 2) := by decide +kernel
theorem d_Drf_isThere_13 : decode (mB m_Drf_isThere) 13 = .ok (.if_icmp .ge 22, 3) := by decide +kernel
theorem d_Drf_isThere_16 : decode (mB m_Drf_isThere) 16 = .ok (.aload_n 0, 1) := by decide +kernel
theorem d_Drf_isThere_17 : decode (mB m_Drf_isThere) 17 = .ok (.getfield 15, 3) := by decide +kernel
theorem d_Drf_isThere_20 : decode (mB m_Drf_isThere) 20 = .ok (.iload_n 3, 1) := by decide +kernel
theorem d_Drf_isThere_21 : decode (mB m_Drf_isThere) 21 = .ok (.laload, 1) := by decide +kernel
theorem d_Drf_isThere_22 : decode (mB m_Drf_isThere) 22 = .ok (.lload_n 1, 1) := by decide +kernel
theorem d_Drf_isThere_23 : decode (mB m_Drf_isThere) 23 = .ok (.lcmp, 1) := by decide +kernel
theorem d_Drf_isThere_24 : decode (mB m_Drf_isThere) 24 = .ok (.ifCond .ne 5, 3) := by decide +kernel
theorem d_Drf_isThere_27 : decode (mB m_Drf_isThere) 27 = .ok (.iconst 1, 1) := by decide +kernel
theorem d_Drf_isThere_28 : decode (mB m_Drf_isThere) 28 = .ok (.ireturn, 1) := by decide +kernel
theorem d_Drf_isThere_29 : decode (mB m_Drf_isThere) 29 = .ok (.iinc 3 1, 3) := by decide +kernel
theorem d_Drf_isThere_32 : decode (mB m_Drf_isThere) 32 = .ok (.goto (-30), 3) := by decide +kernel
theorem d_Drf_isThere_35 : decode (mB m_Drf_isThere) 35 = .ok (.iconst 0, 1) := by decide +kernel
theorem d_Drf_isThere_36 : decode (mB m_Drf_isThere) 36 = .ok (.ireturn, 1) := by decide +kernel
theorem cal_Drf_isThere : mCal m_Drf_isThere 1 := ⟨Or.inl ⟨rfl, goodIn_r _ [576] (by decide +kernel) (by decide +kernel)⟩, by decide, ⟨by decide, by decide⟩, by decide +kernel⟩
abbrev b_Drf_lettersFrom : ByteArray := prog_5_method_10_code
def m_Drf_lettersFrom : Mi := (⟨"TextNet$Draft", "lettersFrom", "(I)J"⟩, b_Drf_lettersFrom, 5, (some .long), [])
theorem d_Drf_lettersFrom_0 : decode (mB m_Drf_lettersFrom) 0 = .ok (.lconst 0, 1) := by decide +kernel
theorem d_Drf_lettersFrom_1 : decode (mB m_Drf_lettersFrom) 1 = .ok (.lstore_n 2, 1) := by decide +kernel
theorem d_Drf_lettersFrom_2 : decode (mB m_Drf_lettersFrom) 2 = .ok (.iconst 0, 1) := by decide +kernel
theorem d_Drf_lettersFrom_3 : decode (mB m_Drf_lettersFrom) 3 = .ok (.istore 4, 2) := by decide +kernel
theorem d_Drf_lettersFrom_5 : decode (mB m_Drf_lettersFrom) 5 = .ok (.iload 4, 2) := by decide +kernel
theorem d_Drf_lettersFrom_7 : decode (mB m_Drf_lettersFrom) 7 = .ok (.bipush 8, 2) := by decide +kernel
theorem d_Drf_lettersFrom_9 : decode (mB m_Drf_lettersFrom) 9 = .ok (.if_icmp .ge 31, 3) := by decide +kernel
theorem d_Drf_lettersFrom_12 : decode (mB m_Drf_lettersFrom) 12 = .ok (.lload_n 2, 1) := by decide +kernel
theorem d_Drf_lettersFrom_13 : decode (mB m_Drf_lettersFrom) 13 = .ok (.aload_n 0, 1) := by decide +kernel
theorem d_Drf_lettersFrom_14 : decode (mB m_Drf_lettersFrom) 14 = .ok (.iload_n 1, 1) := by decide +kernel
theorem d_Drf_lettersFrom_15 : decode (mB m_Drf_lettersFrom) 15 = .ok (.iload 4, 2) := by decide +kernel
theorem d_Drf_lettersFrom_17 : decode (mB m_Drf_lettersFrom) 17 = .ok (.iadd, 1) := by decide +kernel
theorem d_Drf_lettersFrom_18 : decode (mB m_Drf_lettersFrom) 18 = .ok (.invokevirtual 59, 3) := by decide +kernel
theorem d_Drf_lettersFrom_21 : decode (mB m_Drf_lettersFrom) 21 = .ok (.i2l, 1) := by decide +kernel
theorem d_Drf_lettersFrom_22 : decode (mB m_Drf_lettersFrom) 22 = .ok (.ldc2_w 92, 3) := by decide +kernel
theorem d_Drf_lettersFrom_25 : decode (mB m_Drf_lettersFrom) 25 = .ok (.land, 1) := by decide +kernel
theorem d_Drf_lettersFrom_26 : decode (mB m_Drf_lettersFrom) 26 = .ok (.bipush 8, 2) := by decide +kernel
theorem d_Drf_lettersFrom_28 : decode (mB m_Drf_lettersFrom) 28 = .ok (.iload 4, 2) := by decide +kernel
theorem d_Drf_lettersFrom_30 : decode (mB m_Drf_lettersFrom) 30 = .ok (.imul, 1) := by decide +kernel
theorem d_Drf_lettersFrom_31 : decode (mB m_Drf_lettersFrom) 31 = .ok (.lshl, 1) := by decide +kernel
theorem d_Drf_lettersFrom_32 : decode (mB m_Drf_lettersFrom) 32 = .ok (.lor, 1) := by decide +kernel
theorem d_Drf_lettersFrom_33 : decode (mB m_Drf_lettersFrom) 33 = .ok (.lstore_n 2, 1) := by decide +kernel
theorem d_Drf_lettersFrom_34 : decode (mB m_Drf_lettersFrom) 34 = .ok (.iinc 4 1, 3) := by decide +kernel
theorem d_Drf_lettersFrom_37 : decode (mB m_Drf_lettersFrom) 37 = .ok (.goto (-32), 3) := by decide +kernel
theorem d_Drf_lettersFrom_40 : decode (mB m_Drf_lettersFrom) 40 = .ok (.lload_n 2, 1) := by decide +kernel
theorem d_Drf_lettersFrom_41 : decode (mB m_Drf_lettersFrom) 41 = .ok (.lreturn, 1) := by decide +kernel
theorem cal_Drf_lettersFrom : mCal m_Drf_lettersFrom 1 := ⟨Or.inl ⟨rfl, goodIn_r _ [571] (by decide +kernel) (by decide +kernel)⟩, by decide, ⟨by decide, by decide⟩, by decide +kernel⟩
