section Cls4
/-- the byte of a sign, as Java has it -/
def b8 (c : Nat) : Int32 := (nI c).toInt8.toInt32
theorem b8_lo : ∀ c, c < 128 → b8 c = nI c := by decide +kernel
theorem b8_hi : ∀ c, c < 128 → b8 (c + 128) < 0 := by decide +kernel
theorem b8_eq {b c : Nat} (hb : b < 128) (hc : c < 256) : nI b = b8 c ↔ b = c := by
  rcases Nat.lt_or_ge c 128 with h | h
  · rw [b8_lo c h]
    exact nI_eq (by omega) (by omega)
  · have h2 := b8_hi (c - 128) (by omega)
    rw [show c - 128 + 128 = c by omega] at h2
    exact ⟨fun q => absurd (q ▸ h2) (nI_pos (by omega)), fun q => absurd q (by omega)⟩
def idxI (bs : List Nat) (c : Nat) : Int32 := match bs.findIdx? (· == c) with
  | none => -1
  | some i => nI i
theorem idxI_at {bs : List Nat} {c k : Nat} (h : ∀ i, i < k → bs.getD i 0 ≠ c) (hk : k < bs.length) (hc : bs.getD k 0 = c) : idxI bs c = nI k := by
  have : bs.findIdx? (· == c) = some k := by
    rw [List.findIdx?_eq_some_iff_getElem]
    refine ⟨hk, ?_, fun j hj => ?_⟩
    · simpa [List.getD, hk] using hc
    · have h1 := h j hj
      simpa [List.getD, show j < bs.length by omega] using h1
  unfold idxI
  rw [this]
theorem idxI_no {bs : List Nat} {c : Nat} (h : ∀ i, i < bs.length → bs.getD i 0 ≠ c) : idxI bs c = -1 := by
  have : bs.findIdx? (· == c) = none := by
    rw [List.findIdx?_eq_none_iff]
    intro x hx
    obtain ⟨i, hi, rfl⟩ := List.getElem_of_mem hx
    have h1 := h i hi
    simpa [List.getD, hi] using h1
  unfold idxI
  rw [this]
theorem bs7 {bs : List Nat} (h : ∀ b ∈ bs, b < 128) (k : Nat) : bs.getD k 0 < 128 := by
  rcases Nat.lt_or_ge k bs.length with h1 | h1
  · simp [List.getD, h1]
    exact h _ (List.getElem_mem _)
  · simp [List.getD, h1]
set_option maxRecDepth 20000 in
theorem c_StringLatin1_indexOfChar {G : Gt}  {h : AHp} {v : Nat} {bs : List Nat} (hT : sT G v bs) (hbs : bs.length < 100) (hb7 : ∀ b ∈ bs, b < 128) {c : Nat} (hc : c < 256) : CallR G m_StringLatin1_indexOfChar 0 0 [.ref v, .int (nI c), .int (nI 0), .int (nI (bs.length))] h 0 0 (some (.int (idxI bs c))) h := by
  refine CallS.of (Nat.le_of_ble_eq_true rfl) ?_
  have L2 : ∀ (f k : Nat), bs.length - k < f → k ≤ bs.length → (∀ i, i < k → bs.getD i 0 ≠ c) → WP G m_StringLatin1_indexOfChar (0, 0, 0, 0, h, fun r9 h9 => r9 = .inl (some (.int (idxI bs c))) ∧ h9 = h) 7 [(5, .int (nI k)), (4, .int (b8 c)), (0, .ref v), (1, .int (nI c)), (2, .int (nI 0)), (3, .int (nI bs.length))] [] h 0 0 := by
    intro f
    induction f with
    | zero =>
      intro k h1
      omega
    | succ f ih =>
      intro k hf hk hne
      refine wp_iload d_StringLatin1_indexOfChar_7 0 rfl ?_
      refine wp_iload_n d_StringLatin1_indexOfChar_9 rfl 5 rfl ?_
      refine wp_geN (tgt := 31) d_StringLatin1_indexOfChar_10 (by decide) (by omega) (by omega) (fun c10 => ?_) (fun c10 => ?_)
      · refine wp_iconst (v := -1) d_StringLatin1_indexOfChar_31 (by decide) ?_
        exact wp_iret d_StringLatin1_indexOfChar_32 rfl ⟨resI (idxI_no (fun i hi => hne i (by omega))).symm, rfl⟩
      · refine wp_aload_n d_StringLatin1_indexOfChar_13 rfl 2 rfl ?_
        refine wp_iload d_StringLatin1_indexOfChar_14 0 rfl ?_
        refine wp_sbld (v := .int (nI (bs.getD k 0))) d_StringLatin1_indexOfChar_16 hT (by omega) (by omega) rfl ?_
        refine wp_iload d_StringLatin1_indexOfChar_17 1 rfl ?_
        refine wp_icmp_ne (tgt := 25) d_StringLatin1_indexOfChar_19 (by decide) (fun c19 => ?_) (fun c19 => ?_)
        · refine wp_iinc (lv' := [(5, .int (nI (k + 1))), (4, .int (b8 c)), (0, .ref v), (1, .int (nI c)), (2, .int (nI 0)), (3, .int (nI (bs.length)))]) d_StringLatin1_indexOfChar_25 0 rfl (nI_1 _) (by decide) rfl ?_
          refine wp_goto (tgt := 7) d_StringLatin1_indexOfChar_28 (by decide) ?_
          exact ih (k + 1) (by omega) (by omega) (fun i hi q => by rcases Nat.lt_or_ge i k with h | h; (exact hne i h q); (obtain rfl : i = k := (by omega); exact absurd ((b8_eq (bs7 hb7 i) hc).mpr q) (by assumption)))
        · refine wp_iload d_StringLatin1_indexOfChar_22 0 rfl ?_
          exact wp_iret d_StringLatin1_indexOfChar_24 rfl ⟨resI (idxI_at hne (by omega) ((b8_eq (bs7 hb7 k) hc).mp (by assumption))).symm, rfl⟩
  refine wp_iload_n d_StringLatin1_indexOfChar_0 rfl 1 rfl ?_
  refine wp_i2b (v := b8 c) d_StringLatin1_indexOfChar_1 rfl ?_
  refine wp_istore (lv' := [(4, .int (b8 c)), (0, .ref v), (1, .int (nI c)), (2, .int (nI 0)), (3, .int (nI (bs.length)))]) d_StringLatin1_indexOfChar_2 (by decide) rfl ?_
  refine wp_iload_n d_StringLatin1_indexOfChar_4 rfl 3 rfl ?_
  refine wp_istore (lv' := [(5, .int (nI 0)), (4, .int (b8 c)), (0, .ref v), (1, .int (nI c)), (2, .int (nI 0)), (3, .int (nI (bs.length)))]) d_StringLatin1_indexOfChar_5 (by decide) rfl ?_
  exact L2 (bs.length + 1) 0 (by omega) (by omega) (fun i hi => absurd hi (by omega))
set_option maxRecDepth 20000 in
theorem c_StringLatin1_indexOf {G : Gt}  {h : AHp} {v : Nat} {bs : List Nat} (hT : sT G v bs) (hbs : bs.length < 100) (hb0 : 0 < bs.length) (hb7 : ∀ b ∈ bs, b < 128) {c : Nat} (hc : c < 256) : CallR G m_StringLatin1_indexOf 1 17 [.ref v, .int (nI c), .int (nI 0), .int (nI (bs.length))] h 0 0 (some (.int (idxI bs c))) h := by
  refine CallS.of (Nat.le_of_ble_eq_true rfl) ?_
  refine wp_iload_n d_StringLatin1_indexOf_0 rfl 1 rfl ?_
  refine wp_callV (r := 0) d_StringLatin1_indexOf_1 (link_S (av := [.int (nI c)]) (rest := []) d_StringLatin1_indexOf_1 cal_StringLatin1_canEncode wM_Lat_88 rfl) cal_StringLatin1_canEncode (c_StringLatin1_canEncode (by omega)) (Nat.le_of_ble_eq_true rfl) ⟨Nat.le_of_ble_eq_true rfl, Nat.le_of_ble_eq_true rfl⟩ ?_
  refine wp_if_neB (tgt := 9) d_StringLatin1_indexOf_4 (by decide) (fun _ => ?_) (fun c => absurd c (by decide))
  refine wp_iload_n d_StringLatin1_indexOf_9 rfl 2 rfl ?_
  refine wp_iconst (v := nI 0) d_StringLatin1_indexOf_10 (by decide) ?_
  refine wp_callVF (r := 0) d_StringLatin1_indexOf_11 (link_SF (av := [.int (nI 0), .int (nI 0)]) (rest := []) d_StringLatin1_indexOf_11 cal_Math_max wM_Lat_92 rfl) cal_Math_max (c_Math_max (by omega) (by omega)) (Nat.le_of_ble_eq_true rfl) ⟨Nat.le_of_ble_eq_true rfl, Nat.le_of_ble_eq_true rfl⟩ ?_
  refine wp_toI (z := (nI 0)) (congrArg nI (by omega)) ?_
  refine wp_istore_n (lv' := [(2, .int (nI 0)), (0, .ref v), (1, .int (nI c)), (3, .int (nI (bs.length)))]) d_StringLatin1_indexOf_14 rfl (by decide) rfl ?_
  refine wp_iload_n d_StringLatin1_indexOf_15 rfl 3 rfl ?_
  refine wp_aload_n d_StringLatin1_indexOf_16 rfl 1 rfl ?_
  refine wp_slen d_StringLatin1_indexOf_17 hT ?_
  refine wp_callVF (r := 0) d_StringLatin1_indexOf_18 (link_SF (av := [.int (nI (bs.length)), .int (nI (bs.length))]) (rest := []) d_StringLatin1_indexOf_18 cal_Math_min wM_Lat_38 rfl) cal_Math_min (c_Math_min (by omega) (by omega)) (Nat.le_of_ble_eq_true rfl) ⟨Nat.le_of_ble_eq_true rfl, Nat.le_of_ble_eq_true rfl⟩ ?_
  refine wp_toI (z := (nI (bs.length))) (congrArg nI (by omega)) ?_
  refine wp_istore_n (lv' := [(3, .int (nI (bs.length))), (2, .int (nI 0)), (0, .ref v), (1, .int (nI c))]) d_StringLatin1_indexOf_21 rfl (by decide) rfl ?_
  refine wp_iload_n d_StringLatin1_indexOf_22 rfl 1 rfl ?_
  refine wp_iload_n d_StringLatin1_indexOf_23 rfl 0 rfl ?_
  refine wp_ltN (tgt := 29) d_StringLatin1_indexOf_24 (by decide) (by omega) (by omega) (fun c24 => ?_) (fun c24 => ?_)
  · refine wp_aload_n d_StringLatin1_indexOf_29 rfl 2 rfl ?_
    refine wp_iload_n d_StringLatin1_indexOf_30 rfl 3 rfl ?_
    refine wp_iload_n d_StringLatin1_indexOf_31 rfl 1 rfl ?_
    refine wp_iload_n d_StringLatin1_indexOf_32 rfl 0 rfl ?_
    refine wp_callV (r := 0) d_StringLatin1_indexOf_33 (link_S (av := [.ref v, .int (nI c), .int (nI 0), .int (nI (bs.length))]) (rest := []) d_StringLatin1_indexOf_33 cal_StringLatin1_indexOfChar wM_Lat_95 rfl) cal_StringLatin1_indexOfChar (c_StringLatin1_indexOfChar hT hbs hb7 hc) (Nat.le_of_ble_eq_true rfl) ⟨Nat.le_of_ble_eq_true rfl, Nat.le_of_ble_eq_true rfl⟩ ?_
    exact wp_iret d_StringLatin1_indexOf_36 rfl ⟨rfl, rfl⟩
  · omega
set_option maxRecDepth 20000 in
theorem c_String_indexOf1 {G : Gt}  {h : AHp} {a v : Nat} {bs : List Nat} (hJ : jOK G) (hO : sO G a) (hC : sF G a "coder" "B" (.int 0)) (hV : sF G a "value" "[B" (.ref v)) (hT : sT G v bs) (hbs : bs.length < 100) (hb0 : 0 < bs.length) (hb7 : ∀ b ∈ bs, b < 128) {c : Nat} (hc : c < 256) : CallR G m_String_indexOf1 2 32 [.ref a, .int (nI c), .int (nI 0)] h 0 0 (some (.int (idxI bs c))) h := by
  refine CallS.of (Nat.le_of_ble_eq_true rfl) ?_
  refine wp_aload_n d_String_indexOf1_0 rfl 0 rfl ?_
  refine wp_callSt (k' := 0) (n' := 0) (r := 0) (as := []) (rest := []) d_String_indexOf1_1 cal_String_isLatin1 wM_Str_492 rfl hO (c_String_isLatin1 hJ hO hC hV hT hbs) (Nat.le_of_ble_eq_true rfl) ⟨Nat.le_of_ble_eq_true rfl, Nat.le_of_ble_eq_true rfl⟩ ?_
  refine wp_if_eqB (tgt := 23) d_String_indexOf1_4 (by decide) (fun c => absurd c (by decide)) (fun _ => ?_)
  refine wp_aload_n d_String_indexOf1_7 rfl 0 rfl ?_
  refine wp_sget d_String_indexOf1_8 hV wF_Str_9 ?_
  refine wp_iload_n d_String_indexOf1_11 rfl 1 rfl ?_
  refine wp_iload_n d_String_indexOf1_12 rfl 2 rfl ?_
  refine wp_aload_n d_String_indexOf1_13 rfl 0 rfl ?_
  refine wp_callSt (k' := 0) (n' := 0) (r := 3) (as := []) (rest := [.int (nI 0), .int (nI c), .ref v]) d_String_indexOf1_14 cal_String_length wM_Str_505 rfl hO (c_String_length hJ hO hC hV hT hbs) (Nat.le_of_ble_eq_true rfl) ⟨Nat.le_of_ble_eq_true rfl, Nat.le_of_ble_eq_true rfl⟩ ?_
  refine wp_callV (r := 0) d_String_indexOf1_17 (link_S (av := [.ref v, .int (nI c), .int (nI 0), .int (nI (bs.length))]) (rest := []) d_String_indexOf1_17 cal_StringLatin1_indexOf wM_Str_637 rfl) cal_StringLatin1_indexOf (c_StringLatin1_indexOf hT hbs hb0 hb7 hc) (Nat.le_of_ble_eq_true rfl) ⟨Nat.le_of_ble_eq_true rfl, Nat.le_of_ble_eq_true rfl⟩ ?_
  refine wp_goto (tgt := 36) d_String_indexOf1_20 (by decide) ?_
  exact wp_iret d_String_indexOf1_36 rfl ⟨rfl, rfl⟩
set_option maxRecDepth 20000 in
theorem c_String_indexOf {G : Gt}  {h : AHp} {a v : Nat} {bs : List Nat} (hJ : jOK G) (hO : sO G a) (hC : sF G a "coder" "B" (.int 0)) (hV : sF G a "value" "[B" (.ref v)) (hT : sT G v bs) (hbs : bs.length < 100) (hb0 : 0 < bs.length) (hb7 : ∀ b ∈ bs, b < 128) {c : Nat} (hc : c < 256) : CallR G m_String_indexOf 3 46 [.ref a, .int (nI c)] h 0 0 (some (.int (idxI bs c))) h := by
  refine CallS.of (Nat.le_of_ble_eq_true rfl) ?_
  refine wp_aload_n d_String_indexOf_0 rfl 0 rfl ?_
  refine wp_iload_n d_String_indexOf_1 rfl 1 rfl ?_
  refine wp_iconst (v := nI 0) d_String_indexOf_2 (by decide) ?_
  refine wp_callSt (k' := 0) (n' := 0) (r := 0) (as := [.int (nI c), .int (nI 0)]) (rest := []) d_String_indexOf_3 cal_String_indexOf1 wM_Str_633 rfl hO (c_String_indexOf1 hJ hO hC hV hT hbs hb0 hb7 hc) (Nat.le_of_ble_eq_true rfl) ⟨Nat.le_of_ble_eq_true rfl, Nat.le_of_ble_eq_true rfl⟩ ?_
  exact wp_iret d_String_indexOf_6 rfl ⟨rfl, rfl⟩
set_option maxRecDepth 20000 in
theorem c_Preconditions_checkIndexN {G : Gt}  {h : AHp} {i len : Nat} (hi : i < len) (hl : len < 2 ^ 31) : CallR G m_Preconditions_checkIndex 0 0 [.int (nI i), .int (nI len), .null] h 0 0 (some (.int (nI i))) h := by
  refine CallS.of (Nat.le_of_ble_eq_true rfl) ?_
  refine wp_iload_n d_Preconditions_checkIndex_0 rfl 0 rfl ?_
  refine wp_if_ltN (tgt := 9) d_Preconditions_checkIndex_1 (by decide) (by omega) ?_
  refine wp_iload_n d_Preconditions_checkIndex_4 rfl 0 rfl ?_
  refine wp_iload_n d_Preconditions_checkIndex_5 rfl 1 rfl ?_
  refine wp_ltN (tgt := 16) d_Preconditions_checkIndex_6 (by decide) (by omega) (by omega) (fun c6 => ?_) (fun c6 => ?_)
  · refine wp_iload_n d_Preconditions_checkIndex_16 rfl 0 rfl ?_
    exact wp_iret d_Preconditions_checkIndex_17 rfl ⟨rfl, rfl⟩
  · omega
set_option maxRecDepth 20000 in
theorem c_Preconditions_checkIndexR {G : Gt}  {h : AHp} {i len : Nat} (hi : i < len) (hl : len < 2 ^ 31) {t : Nat} : CallR G m_Preconditions_checkIndex 0 0 [.int (nI i), .int (nI len), .ref t] h 0 0 (some (.int (nI i))) h := by
  refine CallS.of (Nat.le_of_ble_eq_true rfl) ?_
  refine wp_iload_n d_Preconditions_checkIndex_0 rfl 0 rfl ?_
  refine wp_if_ltN (tgt := 9) d_Preconditions_checkIndex_1 (by decide) (by omega) ?_
  refine wp_iload_n d_Preconditions_checkIndex_4 rfl 0 rfl ?_
  refine wp_iload_n d_Preconditions_checkIndex_5 rfl 1 rfl ?_
  refine wp_ltN (tgt := 16) d_Preconditions_checkIndex_6 (by decide) (by omega) (by omega) (fun c6 => ?_) (fun c6 => ?_)
  · refine wp_iload_n d_Preconditions_checkIndex_16 rfl 0 rfl ?_
    exact wp_iret d_Preconditions_checkIndex_17 rfl ⟨rfl, rfl⟩
  · omega
set_option maxRecDepth 20000 in
theorem c_String_checkIndexN {G : Gt}  {h : AHp} {i len : Nat} (hi : i < len) (hl : len < 2 ^ 31) (hZ : va_Z "jdk/internal/util/Preconditions" "SIOOBE_FORMATTER" "Ljava/util/function/BiFunction;" (.null) (fun q => (Gs G).heap.size ≤ q) (Gs G) (Gs G).heap) : CallR G m_String_checkIndex 1 14 [.int (nI i), .int (nI len)] h 0 0 none h := by
  refine CallS.of (Nat.le_of_ble_eq_true rfl) ?_
  refine wp_iload_n d_String_checkIndex_0 rfl 0 rfl ?_
  refine wp_iload_n d_String_checkIndex_1 rfl 1 rfl ?_
  refine wp_gets d_String_checkIndex_2 hZ wF_Str_1053 ?_
  refine wp_callV (r := 0) d_String_checkIndex_5 (link_S (av := [.int (nI i), .int (nI len), .null]) (rest := []) d_String_checkIndex_5 cal_Preconditions_checkIndex wM_Str_1059 rfl) cal_Preconditions_checkIndex (c_Preconditions_checkIndexN hi hl) (Nat.le_of_ble_eq_true rfl) ⟨Nat.le_of_ble_eq_true rfl, Nat.le_of_ble_eq_true rfl⟩ ?_
  refine wp_pop d_String_checkIndex_8 rfl ?_
  exact wp_vret d_String_checkIndex_9 rfl ⟨rfl, rfl⟩
set_option maxRecDepth 20000 in
theorem c_String_checkIndexR {G : Gt}  {h : AHp} {i len : Nat} (hi : i < len) (hl : len < 2 ^ 31) {t : Nat} (hZ : va_Z "jdk/internal/util/Preconditions" "SIOOBE_FORMATTER" "Ljava/util/function/BiFunction;" (.ref t) (fun q => (Gs G).heap.size ≤ q) (Gs G) (Gs G).heap) : CallR G m_String_checkIndex 1 14 [.int (nI i), .int (nI len)] h 0 0 none h := by
  refine CallS.of (Nat.le_of_ble_eq_true rfl) ?_
  refine wp_iload_n d_String_checkIndex_0 rfl 0 rfl ?_
  refine wp_iload_n d_String_checkIndex_1 rfl 1 rfl ?_
  refine wp_gets d_String_checkIndex_2 hZ wF_Str_1053 ?_
  refine wp_callV (r := 0) d_String_checkIndex_5 (link_S (av := [.int (nI i), .int (nI len), .ref t]) (rest := []) d_String_checkIndex_5 cal_Preconditions_checkIndex wM_Str_1059 rfl) cal_Preconditions_checkIndex (c_Preconditions_checkIndexR hi hl) (Nat.le_of_ble_eq_true rfl) ⟨Nat.le_of_ble_eq_true rfl, Nat.le_of_ble_eq_true rfl⟩ ?_
  refine wp_pop d_String_checkIndex_8 rfl ?_
  exact wp_vret d_String_checkIndex_9 rfl ⟨rfl, rfl⟩
theorem c_String_checkIndex {G : Gt} {h : AHp} {i len : Nat} (hJ : jOK G) (hi : i < len) (hl : len < 2 ^ 31) : CallR G m_String_checkIndex 1 14 [.int (nI i), .int (nI len)] h 0 0 none h := by
  rcases hJ.2 with hZ | ⟨t, hZ⟩
  · exact c_String_checkIndexN hi hl hZ
  · exact c_String_checkIndexR hi hl hZ
theorem i2c_256 : ∀ c, c < 256 → ((nI c).toUInt32 % 65536).toInt32 = nI c := by decide +kernel
theorem i2c_N {a : Nat} (h : a < 128) : ((nI (a % 2 ^ 8)).toUInt32 % 65536).toInt32 = nI a := by rw [Nat.mod_eq_of_lt (by omega)]; exact i2c_256 a (by omega)
theorem nar_c : ∀ c, c < 256 → narrow .char (.int (nI c)) = .int (nI c) := by decide +kernel
set_option maxRecDepth 20000 in
theorem c_StringLatin1_charAt {G : Gt}  {h : AHp} {v : Nat} {bs : List Nat} (hJ : jOK G) (hT : sT G v bs) (hbs : bs.length < 100) (hb7 : ∀ b ∈ bs, b < 128) {k : Nat} (hk : k < bs.length) : CallR G m_StringLatin1_charAt 2 27 [.ref v, .int (nI k)] h 0 0 (some (.int (nI (bs.getD k 0)))) h := by
  refine CallS.of (Nat.le_of_ble_eq_true rfl) ?_
  refine wp_iload_n d_StringLatin1_charAt_0 rfl 1 rfl ?_
  refine wp_aload_n d_StringLatin1_charAt_1 rfl 0 rfl ?_
  refine wp_slen d_StringLatin1_charAt_2 hT ?_
  refine wp_callU (r := 0) d_StringLatin1_charAt_3 (link_S (av := [.int (nI k), .int (nI (bs.length))]) (rest := []) d_StringLatin1_charAt_3 cal_String_checkIndex wM_Lat_9 rfl) cal_String_checkIndex (c_String_checkIndex hJ (by omega) (by omega)) (Nat.le_of_ble_eq_true rfl) ⟨Nat.le_of_ble_eq_true rfl, Nat.le_of_ble_eq_true rfl⟩ ?_
  refine wp_aload_n d_StringLatin1_charAt_6 rfl 0 rfl ?_
  refine wp_iload_n d_StringLatin1_charAt_7 rfl 1 rfl ?_
  refine wp_sbld (v := .int (nI (bs.getD k 0))) d_StringLatin1_charAt_8 hT (by omega) (by omega) rfl ?_
  have hb9 := bs7 hb7 k
  refine wp_sipush (v := nI 255) d_StringLatin1_charAt_9 (by decide) ?_
  refine wp_iandM (c := 8) d_StringLatin1_charAt_12 (by omega) (by decide) ?_
  refine wp_i2c (v := nI (bs.getD k 0)) d_StringLatin1_charAt_13 (i2c_N (by omega)) ?_
  exact wp_zret (ty := .char) d_StringLatin1_charAt_14 rfl (nar_c _ (by omega)) ⟨rfl, rfl⟩
set_option maxRecDepth 20000 in
theorem c_String_charAt {G : Gt}  {h : AHp} {a v : Nat} {bs : List Nat} (hJ : jOK G) (hO : sO G a) (hC : sF G a "coder" "B" (.int 0)) (hV : sF G a "value" "[B" (.ref v)) (hT : sT G v bs) (hbs : bs.length < 100) (hb7 : ∀ b ∈ bs, b < 128) {k : Nat} (hk : k < bs.length) : CallR G m_String_charAt 3 40 [.ref a, .int (nI k)] h 0 0 (some (.int (nI (bs.getD k 0)))) h := by
  refine CallS.of (Nat.le_of_ble_eq_true rfl) ?_
  refine wp_aload_n d_String_charAt_0 rfl 0 rfl ?_
  refine wp_callSt (k' := 0) (n' := 0) (r := 0) (as := []) (rest := []) d_String_charAt_1 cal_String_isLatin1 wM_Str_492 rfl hO (c_String_isLatin1 hJ hO hC hV hT hbs) (Nat.le_of_ble_eq_true rfl) ⟨Nat.le_of_ble_eq_true rfl, Nat.le_of_ble_eq_true rfl⟩ ?_
  refine wp_if_eqB (tgt := 16) d_String_charAt_4 (by decide) (fun c => absurd c (by decide)) (fun _ => ?_)
  refine wp_aload_n d_String_charAt_7 rfl 0 rfl ?_
  refine wp_sget d_String_charAt_8 hV wF_Str_9 ?_
  refine wp_iload_n d_String_charAt_11 rfl 1 rfl ?_
  refine wp_callV (r := 0) d_String_charAt_12 (link_S (av := [.ref v, .int (nI k)]) (rest := []) d_String_charAt_12 cal_StringLatin1_charAt wM_Str_495 rfl) cal_StringLatin1_charAt (c_StringLatin1_charAt hJ hT hbs hb7 hk) (Nat.le_of_ble_eq_true rfl) ⟨Nat.le_of_ble_eq_true rfl, Nat.le_of_ble_eq_true rfl⟩ ?_
  exact wp_zret (ty := .char) d_String_charAt_15 rfl (nar_c _ (by have := bs7 hb7 k; omega)) ⟨rfl, rfl⟩
/-- an array of ints, its first places being x -/
def fil (E : Nat → Nat → Int32) (a n : Nat) (x : Int32) : Nat → Nat → Int32 := fun q i => if q = a ∧ i < n then x else E q i
theorem fil_0 (E : Nat → Nat → Int32) (a : Nat) (x : Int32) : fil E a 0 x = E := by
  funext q i
  unfold fil
  rw [if_neg (by omega)]
theorem fil_s (E : Nat → Nat → Int32) (a n : Nat) (x : Int32) : u2 (fil E a n x) a n x = fil E a (n + 1) x := by
  funext q i
  by_cases hq : q = a
  · subst hq
    rw [u2_at]
    unfold fil
    by_cases hi : i = n
    · rw [if_pos hi, if_pos ⟨rfl, by omega⟩]
    · rw [if_neg hi]
      by_cases h2 : i < n
      · rw [if_pos ⟨rfl, h2⟩, if_pos ⟨rfl, by omega⟩]
      · rw [if_neg (fun z => h2 z.2), if_neg (fun z => by omega)]
  · rw [u2_ne _ _ hq]
    unfold fil
    rw [if_neg (fun z => hq z.1), if_neg (fun z => hq z.1)]
set_option maxRecDepth 20000 in
theorem c_Arrays_fill {G : Gt} {K N : Nat → Nat} {I : Nat → Nat → Int32} {R : Nat → Nat → Option Nat} {L : Nat → Nat → Int64} {E : Nat → Nat → Int32} {El : Nat → Nat → Int64} {Er : Nat → Nat → Option Nat} {a len : Nat} {x : Int32} (hka : K a = 20 + 0) (hlen : N a = len) (hl : len < 1000) : CallR G m_Arrays_fill 0 0 [.ref a, .int x] (hN K N I R L E El Er) 0 0 none (hN K N I R L (fil E a len x) El Er) := by
  refine CallS.of (Nat.le_of_ble_eq_true rfl) ?_
  have L2 : ∀ (f i : Nat) (X : Nat → Nat → Int32), len - i < f → i ≤ len → X = fil E a i x → WP G m_Arrays_fill (0, 0, 0, 0, (hN K N I R L E El Er), fun r9 h9 => r9 = .inl none ∧ h9 = (hN K N I R L (fil E a len x) El Er)) 5 [(2, .int (nI i)), (3, .int (nI len)), (0, .ref a), (1, .int x)] [] (hN K N I R L X El Er) 0 0 := by
    intro f
    induction f with
    | zero =>
      intro i X h1
      omega
    | succ f ih =>
      intro i X hf hin hX
      refine wp_iload_n d_Arrays_fill_5 rfl 0 rfl ?_
      refine wp_iload_n d_Arrays_fill_6 rfl 1 rfl ?_
      refine wp_geN (tgt := 20) d_Arrays_fill_7 (by decide) (by omega) (by omega) (fun c7 => ?_) (fun c7 => ?_)
      · exact wp_vret d_Arrays_fill_20 rfl ⟨rfl, by rw [hX, show i = len by omega]⟩
      · refine wp_aload_n d_Arrays_fill_10 rfl 2 rfl ?_
        refine wp_iload_n d_Arrays_fill_11 rfl 0 rfl ?_
        refine wp_iload_n d_Arrays_fill_12 rfl 3 rfl ?_
        refine wn_ist d_Arrays_fill_13 (hka) (by rw [hlen]; omega) (by rw [hlen]; omega) ?_
        refine wp_iinc (lv' := [(2, .int (nI (i + 1))), (3, .int (nI len)), (0, .ref a), (1, .int x)]) d_Arrays_fill_14 0 rfl (nI_1 _) (by decide) rfl ?_
        refine wp_goto (tgt := 5) d_Arrays_fill_17 (by decide) ?_
        exact ih (i + 1) _ (by omega) (by omega) (by rw [hX, fil_s])
  refine wp_iconst (v := nI 0) d_Arrays_fill_0 (by decide) ?_
  refine wp_istore_n (lv' := [(2, .int (nI 0)), (0, .ref a), (1, .int x)]) d_Arrays_fill_1 rfl (by decide) rfl ?_
  refine wp_aload_n d_Arrays_fill_2 rfl 1 rfl ?_
  refine wn_len (len := len) d_Arrays_fill_3 (hka) rfl (hlen) ?_
  refine wp_istore_n (lv' := [(3, .int (nI len)), (2, .int (nI 0)), (0, .ref a), (1, .int x)]) d_Arrays_fill_4 rfl (by decide) rfl ?_
  refine wp_lv [1, 0, 2, 3] rfl ?_
  exact L2 (len + 1) 0 E (by omega) (by omega) (fil_0 E a x).symm
theorem xor_nn {a b : Nat} (ha : a < 2 ^ 31) (hb : b < 2 ^ 31) : (0 : Int32) ≤ nI a ^^^ nI b := by
  have e : nI a ^^^ nI b = nI (a ^^^ b) := by
    apply Int32.toBitVec_inj.1
    show BitVec.ofNat 32 a ^^^ BitVec.ofNat 32 b = BitVec.ofNat 32 (a ^^^ b)
    apply BitVec.eq_of_getLsbD_eq
    intro i hi
    simp [hi]
  rw [e]
  exact nI_pos' (Nat.xor_lt_two_pow ha hb)
theorem fmN : ∀ m, m < 999 → (0 - nI m) / nI 999 = 0 ∧ (0 < m → ¬ (0 : Int32) ≤ (0 - nI m) ^^^ nI 999) ∧ (0 < m → ¬ 0 - nI m = 0) ∧ (0 - nI m) + nI 999 = nI (999 - m) := by decide +kernel
theorem fm_nx : ¬ nI 999 = 0 := by decide
set_option maxRecDepth 20000 in
theorem c_Math_floorModP {G : Gt}  {h : AHp} {x : Nat} (hx : x < 999) : CallR G m_Math_floorMod 0 0 [.int (nI x), .int (nI 999)] h 0 0 (some (.int (nI x))) h := by
  refine CallS.of (Nat.le_of_ble_eq_true rfl) ?_
  refine wp_iload_n d_Math_floorMod_0 rfl 0 rfl ?_
  refine wp_iload_n d_Math_floorMod_1 rfl 1 rfl ?_
  refine wp_iremN d_Math_floorMod_2 (by omega) (by omega) (by omega) ?_
  refine wp_toI (z := (nI x)) (congrArg nI (Nat.mod_eq_of_lt hx)) ?_
  refine wp_istore_n (lv' := [(2, .int (nI x)), (0, .int (nI x)), (1, .int (nI 999))]) d_Math_floorMod_3 rfl (by decide) rfl ?_
  refine wp_iload_n d_Math_floorMod_4 rfl 1 rfl ?_
  refine wp_iload_n d_Math_floorMod_5 rfl 2 rfl ?_
  refine wp_ixor d_Math_floorMod_6 ?_
  refine wp_if_ge d_Math_floorMod_7 (tgt := 18) rfl (fun _ => ?_) (fun q => absurd (xor_nn (by omega) (by decide)) q)
  refine wp_iload_n d_Math_floorMod_18 rfl 0 rfl ?_
  exact wp_iret d_Math_floorMod_19 rfl ⟨rfl, rfl⟩
set_option maxRecDepth 20000 in
theorem c_Math_floorModN {G : Gt}  {h : AHp} {m : Nat} (hm : 0 < m ∧ m < 999) : CallR G m_Math_floorMod 0 0 [.int (0 - nI m), .int (nI 999)] h 0 0 (some (.int (nI (999 - m)))) h := by
  refine CallS.of (Nat.le_of_ble_eq_true rfl) ?_
  refine wp_iload_n d_Math_floorMod_0 rfl 0 rfl ?_
  refine wp_iload_n d_Math_floorMod_1 rfl 1 rfl ?_
  refine wp_irem d_Math_floorMod_2 fm_nx ?_
  refine wp_toI (z := 0 - nI m) (by rw [(fmN m hm.2).1]; simp) ?_
  refine wp_istore_n (lv' := [(2, .int (0 - nI m)), (0, .int (0 - nI m)), (1, .int (nI 999))]) d_Math_floorMod_3 rfl (by decide) rfl ?_
  refine wp_iload_n d_Math_floorMod_4 rfl 1 rfl ?_
  refine wp_iload_n d_Math_floorMod_5 rfl 2 rfl ?_
  refine wp_ixor d_Math_floorMod_6 ?_
  refine wp_if_ge d_Math_floorMod_7 (tgt := 18) rfl (fun q => absurd q ((fmN m hm.2).2.1 hm.1)) (fun _ => ?_)
  refine wp_iload_n d_Math_floorMod_10 rfl 0 rfl ?_
  refine wp_if_eq d_Math_floorMod_11 (tgt := 18) rfl (fun q => absurd q ((fmN m hm.2).2.2.1 hm.1)) (fun _ => ?_)
  refine wp_iload_n d_Math_floorMod_14 rfl 0 rfl ?_
  refine wp_iload_n d_Math_floorMod_15 rfl 2 rfl ?_
  refine wp_iadd d_Math_floorMod_16 ?_
  refine wp_toI (z := (nI (999 - m))) ((fmN m hm.2).2.2.2) ?_
  exact wp_iret d_Math_floorMod_17 rfl ⟨rfl, rfl⟩
theorem c_Math_floorMod {G : Gt} {h : AHp} {s e : Nat} (hs : 1 ≤ s ∧ s ≤ 999) (he : 1 ≤ e ∧ e ≤ 999) : CallR G m_Math_floorMod 0 0 [.int (nI s - nI e), .int (nI 999)] h 0 0 (some (.int (nI ((s + 999 - e) % 999)))) h := by
  rcases Nat.lt_or_ge s e with h1 | h1
  · have e1 : nI s - nI e = 0 - nI (e - s) := by
      rw [show nI (e - s) = nI e - nI s from (pk_sub (by omega)).symm]
      generalize nI s = x
      generalize nI e = z
      rw [Int32.zero_sub, Int32.neg_sub]
    rw [e1]
    exact CallR.eq (c_Math_floorModN ⟨by omega, by omega⟩) (by rw [show (s + 999 - e) % 999 = 999 - (e - s) by omega]) rfl
  · rw [pk_sub h1]
    rcases Nat.lt_or_ge (s - e) 999 with h2 | h2
    · exact CallR.eq (c_Math_floorModP h2) (by rw [show (s + 999 - e) % 999 = s - e by omega]) rfl
    · omega
end Cls4
