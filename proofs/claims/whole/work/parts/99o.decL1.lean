abbrev b_Law_line : ByteArray := method_3_code
def m_Law_line : Mi := (⟨"TextNetLaw", "line", "(LTextNet;III)I"⟩, b_Law_line, 5, (some .int), [(0, 7, 10, 13)])
theorem d_Law_line_0 : decode (mB m_Law_line) 0 = .ok (.aload_n 0, 1) := by decide +kernel
theorem d_Law_line_1 : decode (mB m_Law_line) 1 = .ok (.iload_n 1, 1) := by decide +kernel
theorem d_Law_line_2 : decode (mB m_Law_line) 2 = .ok (.iload_n 2, 1) := by decide +kernel
theorem d_Law_line_3 : decode (mB m_Law_line) 3 = .ok (.iload_n 3, 1) := by decide +kernel
theorem d_Law_line_4 : decode (mB m_Law_line) 4 = .ok (.invokevirtual 7, 3) := by decide +kernel
theorem d_Law_line_7 : decode (mB m_Law_line) 7 = .ok (.goto 7, 3) := by decide +kernel
theorem d_Law_line_10 : decode (mB m_Law_line) 10 = .ok (.astore 4, 2) := by decide +kernel
theorem d_Law_line_12 : decode (mB m_Law_line) 12 = .ok (.iconst 1, 1) := by decide +kernel
theorem d_Law_line_13 : decode (mB m_Law_line) 13 = .ok (.ireturn, 1) := by decide +kernel
theorem d_Law_line_14 : decode (mB m_Law_line) 14 = .ok (.iconst 0, 1) := by decide +kernel
theorem d_Law_line_15 : decode (mB m_Law_line) 15 = .ok (.ireturn, 1) := by decide +kernel
theorem cal_Law_line : mCal m_Law_line 4 := ⟨Or.inr (goodIn_r _ [188] (by decide +kernel) (by decide +kernel)), by decide, ⟨by decide, by decide⟩, by decide +kernel⟩
abbrev b_Law_route : ByteArray := method_4_code
def m_Law_route : Mi := (⟨"TextNetLaw", "route", "(LTextNet;IIIIII)I"⟩, b_Law_route, 8, (some .int), [(0, 13, 16, 13), (0, 13, 20, 19)])
theorem d_Law_route_0 : decode (mB m_Law_route) 0 = .ok (.aload_n 0, 1) := by decide +kernel
theorem d_Law_route_1 : decode (mB m_Law_route) 1 = .ok (.iload_n 1, 1) := by decide +kernel
theorem d_Law_route_2 : decode (mB m_Law_route) 2 = .ok (.iload_n 2, 1) := by decide +kernel
theorem d_Law_route_3 : decode (mB m_Law_route) 3 = .ok (.iload_n 3, 1) := by decide +kernel
theorem d_Law_route_4 : decode (mB m_Law_route) 4 = .ok (.iload 4, 2) := by decide +kernel
theorem d_Law_route_6 : decode (mB m_Law_route) 6 = .ok (.iload 5, 2) := by decide +kernel
theorem d_Law_route_8 : decode (mB m_Law_route) 8 = .ok (.iload 6, 2) := by decide +kernel
theorem d_Law_route_10 : decode (mB m_Law_route) 10 = .ok (.invokevirtual 15, 3) := by decide +kernel
theorem d_Law_route_13 : decode (mB m_Law_route) 13 = .ok (.goto 11, 3) := by decide +kernel
theorem d_Law_route_16 : decode (mB m_Law_route) 16 = .ok (.astore 7, 2) := by decide +kernel
theorem d_Law_route_18 : decode (mB m_Law_route) 18 = .ok (.iconst 1, 1) := by decide +kernel
theorem d_Law_route_19 : decode (mB m_Law_route) 19 = .ok (.ireturn, 1) := by decide +kernel
theorem d_Law_route_20 : decode (mB m_Law_route) 20 = .ok (.astore 7, 2) := by decide +kernel
theorem d_Law_route_22 : decode (mB m_Law_route) 22 = .ok (.iconst 2, 1) := by decide +kernel
theorem d_Law_route_23 : decode (mB m_Law_route) 23 = .ok (.ireturn, 1) := by decide +kernel
theorem d_Law_route_24 : decode (mB m_Law_route) 24 = .ok (.iconst 0, 1) := by decide +kernel
theorem d_Law_route_25 : decode (mB m_Law_route) 25 = .ok (.ireturn, 1) := by decide +kernel
theorem cal_Law_route : mCal m_Law_route 7 := ⟨Or.inr (goodIn_r _ [354] (by decide +kernel) (by decide +kernel)), by decide, ⟨by decide, by decide⟩, by decide +kernel⟩
abbrev b_Law_put : ByteArray := method_5_code
def m_Law_put : Mi := (⟨"TextNetLaw", "put", "(LTextNet;II)I"⟩, b_Law_put, 4, (some .int), [(0, 6, 9, 13)])
theorem d_Law_put_0 : decode (mB m_Law_put) 0 = .ok (.aload_n 0, 1) := by decide +kernel
theorem d_Law_put_1 : decode (mB m_Law_put) 1 = .ok (.iload_n 1, 1) := by decide +kernel
theorem d_Law_put_2 : decode (mB m_Law_put) 2 = .ok (.iload_n 2, 1) := by decide +kernel
theorem d_Law_put_3 : decode (mB m_Law_put) 3 = .ok (.invokevirtual 21, 3) := by decide +kernel
theorem d_Law_put_6 : decode (mB m_Law_put) 6 = .ok (.goto 6, 3) := by decide +kernel
theorem d_Law_put_9 : decode (mB m_Law_put) 9 = .ok (.astore_n 3, 1) := by decide +kernel
theorem d_Law_put_10 : decode (mB m_Law_put) 10 = .ok (.iconst 1, 1) := by decide +kernel
theorem d_Law_put_11 : decode (mB m_Law_put) 11 = .ok (.ireturn, 1) := by decide +kernel
theorem d_Law_put_12 : decode (mB m_Law_put) 12 = .ok (.iconst 0, 1) := by decide +kernel
theorem d_Law_put_13 : decode (mB m_Law_put) 13 = .ok (.ireturn, 1) := by decide +kernel
theorem cal_Law_put : mCal m_Law_put 3 := ⟨Or.inr (goodIn_r _ [435] (by decide +kernel) (by decide +kernel)), by decide, ⟨by decide, by decide⟩, by decide +kernel⟩
abbrev b_Law_file : ByteArray := method_6_code
def m_Law_file : Mi := (⟨"TextNetLaw", "file", "(LTextNet;II[J)I"⟩, b_Law_file, 5, (some .int), [(0, 10, 13, 13), (0, 10, 17, 19)])
theorem d_Law_file_0 : decode (mB m_Law_file) 0 = .ok (.aload_n 3, 1) := by decide +kernel
theorem d_Law_file_1 : decode (mB m_Law_file) 1 = .ok (.iconst 0, 1) := by decide +kernel
theorem d_Law_file_2 : decode (mB m_Law_file) 2 = .ok (.aload_n 0, 1) := by decide +kernel
theorem d_Law_file_3 : decode (mB m_Law_file) 3 = .ok (.iload_n 1, 1) := by decide +kernel
theorem d_Law_file_4 : decode (mB m_Law_file) 4 = .ok (.iload_n 2, 1) := by decide +kernel
theorem d_Law_file_5 : decode (mB m_Law_file) 5 = .ok (.invokevirtual 25, 3) := by decide +kernel
theorem d_Law_file_8 : decode (mB m_Law_file) 8 = .ok (.i2l, 1) := by decide +kernel
theorem d_Law_file_9 : decode (mB m_Law_file) 9 = .ok (.lastore, 1) := by decide +kernel
theorem d_Law_file_10 : decode (mB m_Law_file) 10 = .ok (.goto 11, 3) := by decide +kernel
theorem d_Law_file_13 : decode (mB m_Law_file) 13 = .ok (.astore 4, 2) := by decide +kernel
theorem d_Law_file_15 : decode (mB m_Law_file) 15 = .ok (.iconst 1, 1) := by decide +kernel
theorem d_Law_file_16 : decode (mB m_Law_file) 16 = .ok (.ireturn, 1) := by decide +kernel
theorem d_Law_file_17 : decode (mB m_Law_file) 17 = .ok (.astore 4, 2) := by decide +kernel
theorem d_Law_file_19 : decode (mB m_Law_file) 19 = .ok (.iconst 2, 1) := by decide +kernel
theorem d_Law_file_20 : decode (mB m_Law_file) 20 = .ok (.ireturn, 1) := by decide +kernel
theorem d_Law_file_21 : decode (mB m_Law_file) 21 = .ok (.iconst 0, 1) := by decide +kernel
theorem d_Law_file_22 : decode (mB m_Law_file) 22 = .ok (.ireturn, 1) := by decide +kernel
theorem cal_Law_file : mCal m_Law_file 4 := ⟨Or.inr (goodIn_r _ [447] (by decide +kernel) (by decide +kernel)), by decide, ⟨by decide, by decide⟩, by decide +kernel⟩
abbrev b_Law_send : ByteArray := method_7_code
def m_Law_send : Mi := (⟨"TextNetLaw", "send", "(LTextNet;II[J)I"⟩, b_Law_send, 5, (some .int), [(0, 10, 13, 13)])
theorem d_Law_send_0 : decode (mB m_Law_send) 0 = .ok (.aload_n 3, 1) := by decide +kernel
theorem d_Law_send_1 : decode (mB m_Law_send) 1 = .ok (.iconst 0, 1) := by decide +kernel
theorem d_Law_send_2 : decode (mB m_Law_send) 2 = .ok (.aload_n 0, 1) := by decide +kernel
theorem d_Law_send_3 : decode (mB m_Law_send) 3 = .ok (.iload_n 1, 1) := by decide +kernel
theorem d_Law_send_4 : decode (mB m_Law_send) 4 = .ok (.iload_n 2, 1) := by decide +kernel
theorem d_Law_send_5 : decode (mB m_Law_send) 5 = .ok (.invokevirtual 29, 3) := by decide +kernel
theorem d_Law_send_8 : decode (mB m_Law_send) 8 = .ok (.i2l, 1) := by decide +kernel
theorem d_Law_send_9 : decode (mB m_Law_send) 9 = .ok (.lastore, 1) := by decide +kernel
theorem d_Law_send_10 : decode (mB m_Law_send) 10 = .ok (.goto 7, 3) := by decide +kernel
theorem d_Law_send_13 : decode (mB m_Law_send) 13 = .ok (.astore 4, 2) := by decide +kernel
theorem d_Law_send_15 : decode (mB m_Law_send) 15 = .ok (.iconst 1, 1) := by decide +kernel
theorem d_Law_send_16 : decode (mB m_Law_send) 16 = .ok (.ireturn, 1) := by decide +kernel
theorem d_Law_send_17 : decode (mB m_Law_send) 17 = .ok (.iconst 0, 1) := by decide +kernel
theorem d_Law_send_18 : decode (mB m_Law_send) 18 = .ok (.ireturn, 1) := by decide +kernel
theorem cal_Law_send : mCal m_Law_send 4 := ⟨Or.inr (goodIn_r _ [753] (by decide +kernel) (by decide +kernel)), by decide, ⟨by decide, by decide⟩, by decide +kernel⟩
abbrev b_Law_carry : ByteArray := method_8_code
def m_Law_carry : Mi := (⟨"TextNetLaw", "carry", "(LTextNet;II[J)I"⟩, b_Law_carry, 5, (some .int), [(0, 10, 13, 13)])
theorem d_Law_carry_0 : decode (mB m_Law_carry) 0 = .ok (.aload_n 3, 1) := by decide +kernel
theorem d_Law_carry_1 : decode (mB m_Law_carry) 1 = .ok (.iconst 0, 1) := by decide +kernel
theorem d_Law_carry_2 : decode (mB m_Law_carry) 2 = .ok (.aload_n 0, 1) := by decide +kernel
theorem d_Law_carry_3 : decode (mB m_Law_carry) 3 = .ok (.iload_n 1, 1) := by decide +kernel
theorem d_Law_carry_4 : decode (mB m_Law_carry) 4 = .ok (.iload_n 2, 1) := by decide +kernel
theorem d_Law_carry_5 : decode (mB m_Law_carry) 5 = .ok (.invokevirtual 32, 3) := by decide +kernel
theorem d_Law_carry_8 : decode (mB m_Law_carry) 8 = .ok (.i2l, 1) := by decide +kernel
theorem d_Law_carry_9 : decode (mB m_Law_carry) 9 = .ok (.lastore, 1) := by decide +kernel
theorem d_Law_carry_10 : decode (mB m_Law_carry) 10 = .ok (.goto 7, 3) := by decide +kernel
theorem d_Law_carry_13 : decode (mB m_Law_carry) 13 = .ok (.astore 4, 2) := by decide +kernel
theorem d_Law_carry_15 : decode (mB m_Law_carry) 15 = .ok (.iconst 1, 1) := by decide +kernel
theorem d_Law_carry_16 : decode (mB m_Law_carry) 16 = .ok (.ireturn, 1) := by decide +kernel
theorem d_Law_carry_17 : decode (mB m_Law_carry) 17 = .ok (.iconst 0, 1) := by decide +kernel
theorem d_Law_carry_18 : decode (mB m_Law_carry) 18 = .ok (.ireturn, 1) := by decide +kernel
theorem cal_Law_carry : mCal m_Law_carry 4 := ⟨Or.inr (goodIn_r _ [824] (by decide +kernel) (by decide +kernel)), by decide, ⟨by decide, by decide⟩, by decide +kernel⟩
abbrev b_Law_disturb : ByteArray := method_9_code
def m_Law_disturb : Mi := (⟨"TextNetLaw", "disturb", "(LTextNet;III[J)I"⟩, b_Law_disturb, 6, (some .int), [(0, 19, 22, 13)])
theorem d_Law_disturb_0 : decode (mB m_Law_disturb) 0 = .ok (.aload 4, 2) := by decide +kernel
theorem d_Law_disturb_2 : decode (mB m_Law_disturb) 2 = .ok (.iconst 0, 1) := by decide +kernel
theorem d_Law_disturb_3 : decode (mB m_Law_disturb) 3 = .ok (.aload_n 0, 1) := by decide +kernel
theorem d_Law_disturb_4 : decode (mB m_Law_disturb) 4 = .ok (.iload_n 1, 1) := by decide +kernel
theorem d_Law_disturb_5 : decode (mB m_Law_disturb) 5 = .ok (.iload_n 2, 1) := by decide +kernel
theorem d_Law_disturb_6 : decode (mB m_Law_disturb) 6 = .ok (.iload_n 3, 1) := by decide +kernel
theorem d_Law_disturb_7 : decode (mB m_Law_disturb) 7 = .ok (.invokevirtual 35, 3) := by decide +kernel
theorem d_Law_disturb_10 : decode (mB m_Law_disturb) 10 = .ok (.ifCond .eq 7, 3) := by decide +kernel
theorem d_Law_disturb_13 : decode (mB m_Law_disturb) 13 = .ok (.lconst 1, 1) := by decide +kernel
theorem d_Law_disturb_14 : decode (mB m_Law_disturb) 14 = .ok (.goto 4, 3) := by decide +kernel
theorem d_Law_disturb_17 : decode (mB m_Law_disturb) 17 = .ok (.lconst 0, 1) := by decide +kernel
theorem d_Law_disturb_18 : decode (mB m_Law_disturb) 18 = .ok (.lastore, 1) := by decide +kernel
theorem d_Law_disturb_19 : decode (mB m_Law_disturb) 19 = .ok (.goto 7, 3) := by decide +kernel
theorem d_Law_disturb_22 : decode (mB m_Law_disturb) 22 = .ok (.astore 5, 2) := by decide +kernel
theorem d_Law_disturb_24 : decode (mB m_Law_disturb) 24 = .ok (.iconst 1, 1) := by decide +kernel
theorem d_Law_disturb_25 : decode (mB m_Law_disturb) 25 = .ok (.ireturn, 1) := by decide +kernel
theorem d_Law_disturb_26 : decode (mB m_Law_disturb) 26 = .ok (.iconst 0, 1) := by decide +kernel
theorem d_Law_disturb_27 : decode (mB m_Law_disturb) 27 = .ok (.ireturn, 1) := by decide +kernel
theorem cal_Law_disturb : mCal m_Law_disturb 5 := ⟨Or.inr (goodIn_r _ [872] (by decide +kernel) (by decide +kernel)), by decide, ⟨by decide, by decide⟩, by decide +kernel⟩
abbrev b_Law_serve : ByteArray := method_10_code
def m_Law_serve : Mi := (⟨"TextNetLaw", "serve", "(LTextNet;IZ[J)I"⟩, b_Law_serve, 5, (some .int), [(0, 17, 20, 13)])
theorem d_Law_serve_0 : decode (mB m_Law_serve) 0 = .ok (.aload_n 3, 1) := by decide +kernel
theorem d_Law_serve_1 : decode (mB m_Law_serve) 1 = .ok (.iconst 0, 1) := by decide +kernel
theorem d_Law_serve_2 : decode (mB m_Law_serve) 2 = .ok (.aload_n 0, 1) := by decide +kernel
theorem d_Law_serve_3 : decode (mB m_Law_serve) 3 = .ok (.iload_n 1, 1) := by decide +kernel
theorem d_Law_serve_4 : decode (mB m_Law_serve) 4 = .ok (.iload_n 2, 1) := by decide +kernel
theorem d_Law_serve_5 : decode (mB m_Law_serve) 5 = .ok (.invokevirtual 39, 3) := by decide +kernel
theorem d_Law_serve_8 : decode (mB m_Law_serve) 8 = .ok (.ifCond .eq 7, 3) := by decide +kernel
theorem d_Law_serve_11 : decode (mB m_Law_serve) 11 = .ok (.lconst 1, 1) := by decide +kernel
theorem d_Law_serve_12 : decode (mB m_Law_serve) 12 = .ok (.goto 4, 3) := by decide +kernel
theorem d_Law_serve_15 : decode (mB m_Law_serve) 15 = .ok (.lconst 0, 1) := by decide +kernel
theorem d_Law_serve_16 : decode (mB m_Law_serve) 16 = .ok (.lastore, 1) := by decide +kernel
theorem d_Law_serve_17 : decode (mB m_Law_serve) 17 = .ok (.goto 7, 3) := by decide +kernel
theorem d_Law_serve_20 : decode (mB m_Law_serve) 20 = .ok (.astore 4, 2) := by decide +kernel
theorem d_Law_serve_22 : decode (mB m_Law_serve) 22 = .ok (.iconst 1, 1) := by decide +kernel
theorem d_Law_serve_23 : decode (mB m_Law_serve) 23 = .ok (.ireturn, 1) := by decide +kernel
theorem d_Law_serve_24 : decode (mB m_Law_serve) 24 = .ok (.iconst 0, 1) := by decide +kernel
theorem d_Law_serve_25 : decode (mB m_Law_serve) 25 = .ok (.ireturn, 1) := by decide +kernel
theorem cal_Law_serve : mCal m_Law_serve 4 := ⟨Or.inr (goodIn_r _ [884] (by decide +kernel) (by decide +kernel)), by decide, ⟨by decide, by decide⟩, by decide +kernel⟩
abbrev b_Law_time : ByteArray := method_11_code
def m_Law_time : Mi := (⟨"TextNetLaw", "time", "(LTextNet;I[J)I"⟩, b_Law_time, 4, (some .int), [(0, 9, 12, 13)])
theorem d_Law_time_0 : decode (mB m_Law_time) 0 = .ok (.aload_n 2, 1) := by decide +kernel
theorem d_Law_time_1 : decode (mB m_Law_time) 1 = .ok (.iconst 0, 1) := by decide +kernel
theorem d_Law_time_2 : decode (mB m_Law_time) 2 = .ok (.aload_n 0, 1) := by decide +kernel
theorem d_Law_time_3 : decode (mB m_Law_time) 3 = .ok (.iload_n 1, 1) := by decide +kernel
theorem d_Law_time_4 : decode (mB m_Law_time) 4 = .ok (.invokevirtual 43, 3) := by decide +kernel
theorem d_Law_time_7 : decode (mB m_Law_time) 7 = .ok (.i2l, 1) := by decide +kernel
theorem d_Law_time_8 : decode (mB m_Law_time) 8 = .ok (.lastore, 1) := by decide +kernel
theorem d_Law_time_9 : decode (mB m_Law_time) 9 = .ok (.goto 6, 3) := by decide +kernel
theorem d_Law_time_12 : decode (mB m_Law_time) 12 = .ok (.astore_n 3, 1) := by decide +kernel
theorem d_Law_time_13 : decode (mB m_Law_time) 13 = .ok (.iconst 1, 1) := by decide +kernel
theorem d_Law_time_14 : decode (mB m_Law_time) 14 = .ok (.ireturn, 1) := by decide +kernel
theorem d_Law_time_15 : decode (mB m_Law_time) 15 = .ok (.iconst 0, 1) := by decide +kernel
theorem d_Law_time_16 : decode (mB m_Law_time) 16 = .ok (.ireturn, 1) := by decide +kernel
theorem cal_Law_time : mCal m_Law_time 3 := ⟨Or.inr (goodIn_r _ [904] (by decide +kernel) (by decide +kernel)), by decide, ⟨by decide, by decide⟩, by decide +kernel⟩
abbrev b_Law_delivered : ByteArray := method_12_code
def m_Law_delivered : Mi := (⟨"TextNetLaw", "delivered", "(LTextNet;I[J)I"⟩, b_Law_delivered, 4, (some .int), [(0, 9, 12, 13)])
theorem d_Law_delivered_0 : decode (mB m_Law_delivered) 0 = .ok (.aload_n 2, 1) := by decide +kernel
theorem d_Law_delivered_1 : decode (mB m_Law_delivered) 1 = .ok (.iconst 0, 1) := by decide +kernel
theorem d_Law_delivered_2 : decode (mB m_Law_delivered) 2 = .ok (.aload_n 0, 1) := by decide +kernel
theorem d_Law_delivered_3 : decode (mB m_Law_delivered) 3 = .ok (.iload_n 1, 1) := by decide +kernel
theorem d_Law_delivered_4 : decode (mB m_Law_delivered) 4 = .ok (.invokevirtual 47, 3) := by decide +kernel
theorem d_Law_delivered_7 : decode (mB m_Law_delivered) 7 = .ok (.i2l, 1) := by decide +kernel
theorem d_Law_delivered_8 : decode (mB m_Law_delivered) 8 = .ok (.lastore, 1) := by decide +kernel
theorem d_Law_delivered_9 : decode (mB m_Law_delivered) 9 = .ok (.goto 6, 3) := by decide +kernel
theorem d_Law_delivered_12 : decode (mB m_Law_delivered) 12 = .ok (.astore_n 3, 1) := by decide +kernel
theorem d_Law_delivered_13 : decode (mB m_Law_delivered) 13 = .ok (.iconst 1, 1) := by decide +kernel
theorem d_Law_delivered_14 : decode (mB m_Law_delivered) 14 = .ok (.ireturn, 1) := by decide +kernel
theorem d_Law_delivered_15 : decode (mB m_Law_delivered) 15 = .ok (.iconst 0, 1) := by decide +kernel
theorem d_Law_delivered_16 : decode (mB m_Law_delivered) 16 = .ok (.ireturn, 1) := by decide +kernel
theorem cal_Law_delivered : mCal m_Law_delivered 3 := ⟨Or.inr (goodIn_r _ [916] (by decide +kernel) (by decide +kernel)), by decide, ⟨by decide, by decide⟩, by decide +kernel⟩
abbrev b_Law_read : ByteArray := method_13_code
def m_Law_read : Mi := (⟨"TextNetLaw", "read", "(LTextNet;III[J)I"⟩, b_Law_read, 6, (some .int), [(0, 12, 15, 13)])
theorem d_Law_read_0 : decode (mB m_Law_read) 0 = .ok (.aload 4, 2) := by decide +kernel
theorem d_Law_read_2 : decode (mB m_Law_read) 2 = .ok (.iconst 0, 1) := by decide +kernel
theorem d_Law_read_3 : decode (mB m_Law_read) 3 = .ok (.aload_n 0, 1) := by decide +kernel
theorem d_Law_read_4 : decode (mB m_Law_read) 4 = .ok (.iload_n 1, 1) := by decide +kernel
theorem d_Law_read_5 : decode (mB m_Law_read) 5 = .ok (.iload_n 2, 1) := by decide +kernel
theorem d_Law_read_6 : decode (mB m_Law_read) 6 = .ok (.iload_n 3, 1) := by decide +kernel
theorem d_Law_read_7 : decode (mB m_Law_read) 7 = .ok (.invokevirtual 50, 3) := by decide +kernel
theorem d_Law_read_10 : decode (mB m_Law_read) 10 = .ok (.i2l, 1) := by decide +kernel
theorem d_Law_read_11 : decode (mB m_Law_read) 11 = .ok (.lastore, 1) := by decide +kernel
theorem d_Law_read_12 : decode (mB m_Law_read) 12 = .ok (.goto 7, 3) := by decide +kernel
theorem d_Law_read_15 : decode (mB m_Law_read) 15 = .ok (.astore 5, 2) := by decide +kernel
theorem d_Law_read_17 : decode (mB m_Law_read) 17 = .ok (.iconst 1, 1) := by decide +kernel
theorem d_Law_read_18 : decode (mB m_Law_read) 18 = .ok (.ireturn, 1) := by decide +kernel
theorem d_Law_read_19 : decode (mB m_Law_read) 19 = .ok (.iconst 0, 1) := by decide +kernel
theorem d_Law_read_20 : decode (mB m_Law_read) 20 = .ok (.ireturn, 1) := by decide +kernel
theorem cal_Law_read : mCal m_Law_read 5 := ⟨Or.inr (goodIn_r _ [923] (by decide +kernel) (by decide +kernel)), by decide, ⟨by decide, by decide⟩, by decide +kernel⟩
abbrev b_Law_arrived : ByteArray := method_14_code
def m_Law_arrived : Mi := (⟨"TextNetLaw", "arrived", "(LTextNet;II[J)I"⟩, b_Law_arrived, 5, (some .int), [(0, 17, 20, 13)])
theorem d_Law_arrived_0 : decode (mB m_Law_arrived) 0 = .ok (.aload_n 3, 1) := by decide +kernel
theorem d_Law_arrived_1 : decode (mB m_Law_arrived) 1 = .ok (.iconst 0, 1) := by decide +kernel
theorem d_Law_arrived_2 : decode (mB m_Law_arrived) 2 = .ok (.aload_n 0, 1) := by decide +kernel
theorem d_Law_arrived_3 : decode (mB m_Law_arrived) 3 = .ok (.iload_n 1, 1) := by decide +kernel
theorem d_Law_arrived_4 : decode (mB m_Law_arrived) 4 = .ok (.iload_n 2, 1) := by decide +kernel
theorem d_Law_arrived_5 : decode (mB m_Law_arrived) 5 = .ok (.invokevirtual 54, 3) := by decide +kernel
theorem d_Law_arrived_8 : decode (mB m_Law_arrived) 8 = .ok (.ifCond .eq 7, 3) := by decide +kernel
theorem d_Law_arrived_11 : decode (mB m_Law_arrived) 11 = .ok (.lconst 1, 1) := by decide +kernel
theorem d_Law_arrived_12 : decode (mB m_Law_arrived) 12 = .ok (.goto 4, 3) := by decide +kernel
theorem d_Law_arrived_15 : decode (mB m_Law_arrived) 15 = .ok (.lconst 0, 1) := by decide +kernel
theorem d_Law_arrived_16 : decode (mB m_Law_arrived) 16 = .ok (.lastore, 1) := by decide +kernel
theorem d_Law_arrived_17 : decode (mB m_Law_arrived) 17 = .ok (.goto 7, 3) := by decide +kernel
theorem d_Law_arrived_20 : decode (mB m_Law_arrived) 20 = .ok (.astore 4, 2) := by decide +kernel
theorem d_Law_arrived_22 : decode (mB m_Law_arrived) 22 = .ok (.iconst 1, 1) := by decide +kernel
theorem d_Law_arrived_23 : decode (mB m_Law_arrived) 23 = .ok (.ireturn, 1) := by decide +kernel
theorem d_Law_arrived_24 : decode (mB m_Law_arrived) 24 = .ok (.iconst 0, 1) := by decide +kernel
theorem d_Law_arrived_25 : decode (mB m_Law_arrived) 25 = .ok (.ireturn, 1) := by decide +kernel
theorem cal_Law_arrived : mCal m_Law_arrived 4 := ⟨Or.inr (goodIn_r _ [938] (by decide +kernel) (by decide +kernel)), by decide, ⟨by decide, by decide⟩, by decide +kernel⟩
abbrev b_Law_channel : ByteArray := method_15_code
def m_Law_channel : Mi := (⟨"TextNetLaw", "channel", "(LTextNet;III[J)I"⟩, b_Law_channel, 6, (some .int), [(0, 12, 15, 13)])
theorem d_Law_channel_0 : decode (mB m_Law_channel) 0 = .ok (.aload 4, 2) := by decide +kernel
theorem d_Law_channel_2 : decode (mB m_Law_channel) 2 = .ok (.iconst 0, 1) := by decide +kernel
theorem d_Law_channel_3 : decode (mB m_Law_channel) 3 = .ok (.aload_n 0, 1) := by decide +kernel
theorem d_Law_channel_4 : decode (mB m_Law_channel) 4 = .ok (.iload_n 1, 1) := by decide +kernel
theorem d_Law_channel_5 : decode (mB m_Law_channel) 5 = .ok (.iload_n 2, 1) := by decide +kernel
theorem d_Law_channel_6 : decode (mB m_Law_channel) 6 = .ok (.iload_n 3, 1) := by decide +kernel
theorem d_Law_channel_7 : decode (mB m_Law_channel) 7 = .ok (.invokevirtual 58, 3) := by decide +kernel
theorem d_Law_channel_10 : decode (mB m_Law_channel) 10 = .ok (.i2l, 1) := by decide +kernel
theorem d_Law_channel_11 : decode (mB m_Law_channel) 11 = .ok (.lastore, 1) := by decide +kernel
theorem d_Law_channel_12 : decode (mB m_Law_channel) 12 = .ok (.goto 7, 3) := by decide +kernel
theorem d_Law_channel_15 : decode (mB m_Law_channel) 15 = .ok (.astore 5, 2) := by decide +kernel
theorem d_Law_channel_17 : decode (mB m_Law_channel) 17 = .ok (.iconst 1, 1) := by decide +kernel
theorem d_Law_channel_18 : decode (mB m_Law_channel) 18 = .ok (.ireturn, 1) := by decide +kernel
theorem d_Law_channel_19 : decode (mB m_Law_channel) 19 = .ok (.iconst 0, 1) := by decide +kernel
theorem d_Law_channel_20 : decode (mB m_Law_channel) 20 = .ok (.ireturn, 1) := by decide +kernel
theorem cal_Law_channel : mCal m_Law_channel 5 := ⟨Or.inr (goodIn_r _ [948] (by decide +kernel) (by decide +kernel)), by decide, ⟨by decide, by decide⟩, by decide +kernel⟩
abbrev b_Law_count : ByteArray := method_16_code
def m_Law_count : Mi := (⟨"TextNetLaw", "count", "(LTextNet;II[J)I"⟩, b_Law_count, 5, (some .int), [(0, 10, 13, 13)])
theorem d_Law_count_0 : decode (mB m_Law_count) 0 = .ok (.aload_n 3, 1) := by decide +kernel
theorem d_Law_count_1 : decode (mB m_Law_count) 1 = .ok (.iconst 0, 1) := by decide +kernel
theorem d_Law_count_2 : decode (mB m_Law_count) 2 = .ok (.aload_n 0, 1) := by decide +kernel
theorem d_Law_count_3 : decode (mB m_Law_count) 3 = .ok (.iload_n 1, 1) := by decide +kernel
theorem d_Law_count_4 : decode (mB m_Law_count) 4 = .ok (.iload_n 2, 1) := by decide +kernel
theorem d_Law_count_5 : decode (mB m_Law_count) 5 = .ok (.invokevirtual 61, 3) := by decide +kernel
theorem d_Law_count_8 : decode (mB m_Law_count) 8 = .ok (.i2l, 1) := by decide +kernel
theorem d_Law_count_9 : decode (mB m_Law_count) 9 = .ok (.lastore, 1) := by decide +kernel
theorem d_Law_count_10 : decode (mB m_Law_count) 10 = .ok (.goto 7, 3) := by decide +kernel
theorem d_Law_count_13 : decode (mB m_Law_count) 13 = .ok (.astore 4, 2) := by decide +kernel
theorem d_Law_count_15 : decode (mB m_Law_count) 15 = .ok (.iconst 1, 1) := by decide +kernel
theorem d_Law_count_16 : decode (mB m_Law_count) 16 = .ok (.ireturn, 1) := by decide +kernel
theorem d_Law_count_17 : decode (mB m_Law_count) 17 = .ok (.iconst 0, 1) := by decide +kernel
theorem d_Law_count_18 : decode (mB m_Law_count) 18 = .ok (.ireturn, 1) := by decide +kernel
theorem cal_Law_count : mCal m_Law_count 4 := ⟨Or.inr (goodIn_r _ [956] (by decide +kernel) (by decide +kernel)), by decide, ⟨by decide, by decide⟩, by decide +kernel⟩
