section Cls3
abbrev sO (G : Gt) (a : Nat) : Prop := va_O "java/lang/String" a (fun q => (Gs G).heap.size ≤ q) (Gs G) (Gs G).heap
abbrev sF (G : Gt) (a : Nat) (n d : String) (v : Value) : Prop := va_OF "java/lang/String" n d v a (fun q => (Gs G).heap.size ≤ q) (Gs G) (Gs G).heap
abbrev sT (G : Gt) (v : Nat) (bs : List Nat) : Prop := va_T .byte v bs.length (fun j => .int (nI (bs.getD j 0))) (fun q => (Gs G).heap.size ≤ q) (Gs G) (Gs G).heap
set_option maxRecDepth 20000 in
theorem c_Math_max {G : Gt}  {h : AHp} {x z : Nat} (hx : x < 2 ^ 31) (hz : z < 2 ^ 31) : CallR G m_Math_max 0 0 [.int (nI x), .int (nI z)] h 0 0 (some (.int (nI (max x z)))) h := by
  refine CallS.of (Nat.le_of_ble_eq_true rfl) ?_
  refine wp_iload_n d_Math_max_0 rfl 0 rfl ?_
  refine wp_iload_n d_Math_max_1 rfl 1 rfl ?_
  refine wp_ltN (tgt := 9) d_Math_max_2 (by decide) (by omega) (by omega) (fun c2 => ?_) (fun c2 => ?_)
  · refine wp_iload_n d_Math_max_9 rfl 1 rfl ?_
    exact wp_iret d_Math_max_10 rfl ⟨resI (congrArg nI (by omega)), rfl⟩
  · refine wp_iload_n d_Math_max_5 rfl 0 rfl ?_
    refine wp_goto (tgt := 10) d_Math_max_6 (by decide) ?_
    exact wp_iret d_Math_max_10 rfl ⟨resI (congrArg nI (by omega)), rfl⟩
set_option maxRecDepth 20000 in
theorem c_Math_min {G : Gt}  {h : AHp} {x z : Nat} (hx : x < 2 ^ 31) (hz : z < 2 ^ 31) : CallR G m_Math_min 0 0 [.int (nI x), .int (nI z)] h 0 0 (some (.int (nI (min x z)))) h := by
  refine CallS.of (Nat.le_of_ble_eq_true rfl) ?_
  refine wp_iload_n d_Math_min_0 rfl 0 rfl ?_
  refine wp_iload_n d_Math_min_1 rfl 1 rfl ?_
  refine wp_gtN (tgt := 9) d_Math_min_2 (by decide) (by omega) (by omega) (fun c2 => ?_) (fun c2 => ?_)
  · refine wp_iload_n d_Math_min_9 rfl 1 rfl ?_
    exact wp_iret d_Math_min_10 rfl ⟨resI (congrArg nI (by omega)), rfl⟩
  · refine wp_iload_n d_Math_min_5 rfl 0 rfl ?_
    refine wp_goto (tgt := 10) d_Math_min_6 (by decide) ?_
    exact wp_iret d_Math_min_10 rfl ⟨resI (congrArg nI (by omega)), rfl⟩
set_option maxRecDepth 20000 in
theorem c_String_isLatin1 {G : Gt}  {h : AHp} {a v : Nat} {bs : List Nat} (hJ : jOK G) (hO : sO G a) (hC : sF G a "coder" "B" (.int 0)) (hV : sF G a "value" "[B" (.ref v)) (hT : sT G v bs) (hbs : bs.length < 100) : CallR G m_String_isLatin1 0 0 [.ref a] h 0 0 (some (.int (bI true))) h := by
  refine CallS.of (Nat.le_of_ble_eq_true rfl) ?_
  refine wp_gets d_String_isLatin1_0 hJ.1 wF_Str_38 ?_
  refine wp_toI (z := nI 1) rfl ?_
  refine wp_if_eqN (tgt := 17) d_String_isLatin1_3 (by decide) (by omega) (fun c => absurd c (by decide)) (fun _ => ?_)
  refine wp_aload_n d_String_isLatin1_6 rfl 0 rfl ?_
  refine wp_sget d_String_isLatin1_7 hC wF_Str_15 ?_
  refine wp_toI (z := nI 0) rfl ?_
  refine wp_if_neN (tgt := 17) d_String_isLatin1_10 (by decide) (by omega) (fun c => absurd c (by decide)) (fun _ => ?_)
  refine wp_iconst (v := nI 1) d_String_isLatin1_13 (by decide) ?_
  refine wp_goto (tgt := 18) d_String_isLatin1_14 (by decide) ?_
  exact wp_zret (ty := .boolean) d_String_isLatin1_18 rfl rfl ⟨rfl, rfl⟩
set_option maxRecDepth 20000 in
theorem c_String_coder {G : Gt}  {h : AHp} {a v : Nat} {bs : List Nat} (hJ : jOK G) (hO : sO G a) (hC : sF G a "coder" "B" (.int 0)) (hV : sF G a "value" "[B" (.ref v)) (hT : sT G v bs) (hbs : bs.length < 100) : CallR G m_String_coder 0 0 [.ref a] h 0 0 (some (.int (nI 0))) h := by
  refine CallS.of (Nat.le_of_ble_eq_true rfl) ?_
  refine wp_gets d_String_coder_0 hJ.1 wF_Str_38 ?_
  refine wp_toI (z := nI 1) rfl ?_
  refine wp_if_eqN (tgt := 13) d_String_coder_3 (by decide) (by omega) (fun c => absurd c (by decide)) (fun _ => ?_)
  refine wp_aload_n d_String_coder_6 rfl 0 rfl ?_
  refine wp_sget d_String_coder_7 hC wF_Str_15 ?_
  refine wp_toI (z := nI 0) rfl ?_
  refine wp_goto (tgt := 14) d_String_coder_10 (by decide) ?_
  exact wp_zret (ty := .byte) d_String_coder_14 rfl rfl ⟨rfl, rfl⟩
set_option maxRecDepth 20000 in
theorem c_String_length {G : Gt}  {h : AHp} {a v : Nat} {bs : List Nat} (hJ : jOK G) (hO : sO G a) (hC : sF G a "coder" "B" (.int 0)) (hV : sF G a "value" "[B" (.ref v)) (hT : sT G v bs) (hbs : bs.length < 100) : CallR G m_String_length 1 13 [.ref a] h 0 0 (some (.int (nI (bs.length)))) h := by
  refine CallS.of (Nat.le_of_ble_eq_true rfl) ?_
  refine wp_aload_n d_String_length_0 rfl 0 rfl ?_
  refine wp_sget d_String_length_1 hV wF_Str_9 ?_
  refine wp_slen d_String_length_4 hT ?_
  refine wp_aload_n d_String_length_5 rfl 0 rfl ?_
  refine wp_callSt (k' := 0) (n' := 0) (r := 1) (as := []) (rest := [.int (nI (bs.length))]) d_String_length_6 cal_String_coder wM_Str_335 rfl hO (c_String_coder hJ hO hC hV hT hbs) (Nat.le_of_ble_eq_true rfl) ⟨Nat.le_of_ble_eq_true rfl, Nat.le_of_ble_eq_true rfl⟩ ?_
  refine wp_ishrN d_String_length_9 (by omega) (by omega) ?_
  exact wp_iret d_String_length_10 rfl ⟨resI (congrArg nI (by simp)), rfl⟩
set_option maxRecDepth 20000 in
theorem c_StringLatin1_canEncode {G : Gt}  {h : AHp} {x : Nat} (hx : x < 256) : CallR G m_StringLatin1_canEncode 0 0 [.int (nI x)] h 0 0 (some (.int (bI true))) h := by
  refine CallS.of (Nat.le_of_ble_eq_true rfl) ?_
  refine wp_iload_n d_StringLatin1_canEncode_0 rfl 0 rfl ?_
  refine wp_if_ltN (tgt := 15) d_StringLatin1_canEncode_1 (by decide) (by omega) ?_
  refine wp_iload_n d_StringLatin1_canEncode_4 rfl 0 rfl ?_
  refine wp_sipush (v := nI 255) d_StringLatin1_canEncode_5 (by decide) ?_
  refine wp_gtN (tgt := 15) d_StringLatin1_canEncode_8 (by decide) (by omega) (by omega) (fun c8 => ?_) (fun c8 => ?_)
  · refine wp_iconst (v := nI 0) d_StringLatin1_canEncode_15 (by decide) ?_
    exact wp_zret (ty := .boolean) d_StringLatin1_canEncode_16 rfl rfl ⟨resI (bI_zero (absurd c8 (by omega))), rfl⟩
  · refine wp_iconst (v := nI 1) d_StringLatin1_canEncode_11 (by decide) ?_
    refine wp_goto (tgt := 16) d_StringLatin1_canEncode_12 (by decide) ?_
    exact wp_zret (ty := .boolean) d_StringLatin1_canEncode_16 rfl rfl ⟨resI (bI_one (rfl)), rfl⟩
end Cls3
