section Mod20
theorem pbyte_lt (one two : Int32) (k : Nat) : pbyte one two k < 256 := Nat.mod_lt _ (by decide)
theorem pbyte_a {one two : Int32} {k : Nat} (hk : k < 4) : (one >>> (nI (8 * (k % 4)) &&& 31)) &&& nI 255 = nI (pbyte one two k) := by
  rw [byteI _ (by omega), pbyte, if_pos hk, show k % 4 = k by omega]
theorem pbyte_b {one two : Int32} {k : Nat} (hk : 4 ≤ k) (h8 : k < 8) : (two >>> (nI (8 * (k % 4)) &&& 31)) &&& nI 255 = nI (pbyte one two k) := by
  rw [byteI _ (by omega), pbyte, if_neg (by omega), show k % 4 = k - 4 by omega]
/-- the first k bytes as one number -/
def pb8 (one two : Int32) (k : Nat) : Nat := beN ((List.range k).map (pbyte one two))
theorem pb8_s (one two : Int32) (k : Nat) : pb8 one two (k + 1) = pb8 one two k * 2 ^ 8 + pbyte one two k := by
  unfold pb8 beN
  rw [List.range_succ, List.map_append, List.foldl_append]
  rfl
theorem pb8_lt (one two : Int32) (k : Nat) : pb8 one two k < 256 ^ k := by
  have h := beN_lt (l := (List.range k).map (pbyte one two)) (fun b hb => by
    obtain ⟨i, _, rfl⟩ := List.mem_map.mp hb
    exact pbyte_lt one two i)
  rw [List.length_map, List.length_range] at h
  exact h
def pOK1 (one two : Int32) (len k : Nat) : Bool := if k < len then decide (65 ≤ pbyte one two k ∧ pbyte one two k ≤ 90) else pbyte one two k == 0
theorem pfxOK_iff (one two : Int32) (len : Nat) : pfxOK one two len = true ↔ ∀ k, k < 8 → pOK1 one two len k = true := by
  unfold pfxOK
  rw [List.all_eq_true]
  constructor
  · intro h k hk
    exact h k (List.mem_range.mpr hk)
  · intro h k hk
    exact h k (List.mem_range.mp hk)
theorem pfx_bad {one two : Int32} {len k : Nat} (hk : k < 8) (h : pOK1 one two len k = false) : pfxOK one two len = false := by
  cases hp : pfxOK one two len with
  | false => rfl
  | true => rw [(pfxOK_iff one two len).mp hp k hk] at h; cases h
theorem pb8_pfx {one two : Int32} {len : Nat} (hl : len ≤ 8) (h : ∀ k, k < 8 → pOK1 one two len k = true) : pb8 one two 8 = beN (pfx one two len) * 256 ^ (8 - len) := by
  have key : ∀ j, len + j ≤ 8 → pb8 one two (len + j) = beN (pfx one two len) * 256 ^ j := by
    intro j
    induction j with
    | zero => intro _; simp [pb8, pfx]
    | succ j ih =>
      intro hj
      rw [← Nat.add_assoc, pb8_s, ih (by omega)]
      have := h (len + j) (by omega)
      unfold pOK1 at this
      rw [if_neg (by omega)] at this
      simp at this
      rw [this, show (2 : Nat) ^ 8 = 256 from rfl, Nat.add_zero, Nat.pow_succ, Nat.mul_assoc]
  have := key (8 - len) (by omega)
  rwa [show len + (8 - len) = 8 by omega] at this
theorem pfx_len (one two : Int32) (len : Nat) : (pfx one two len).length = len := by unfold pfx; rw [List.length_map, List.length_range]
theorem pfx_b {one two : Int32} {len : Nat} (hl : len ≤ 8) (h : ∀ k, k < 8 → pOK1 one two len k = true) : ∀ b ∈ pfx one two len, 65 ≤ b ∧ b ≤ 90 := by
  intro b hb
  obtain ⟨i, hi, rfl⟩ := List.mem_map.mp hb
  have hi2 := List.mem_range.mp hi
  have := h i (by omega)
  unfold pOK1 at this
  rw [if_pos hi2] at this
  simpa using this
theorem pre_lt {e : List Nat} (he : e.length ≤ 8) (h1 : ∀ b ∈ e, 65 ≤ b ∧ b ≤ 90) : beN e * 256 ^ (8 - e.length) < 2 ^ 64 := by
  have := beN_lt (l := e) (fun b hb => by have := h1 b hb; omega)
  have h2 : 256 ^ e.length * 256 ^ (8 - e.length) = 2 ^ 64 := by rw [← Nat.pow_add, show e.length + (8 - e.length) = 8 by omega]
  rw [← h2]
  exact Nat.mul_lt_mul_of_pos_right this (Nat.pow_pos (by decide))
theorem pre_eq {e p : List Nat} (he : e.length ≤ 8) (hl : e.length = p.length) (h1 : ∀ b ∈ e, 65 ≤ b ∧ b ≤ 90) (h2 : ∀ b ∈ p, 65 ≤ b ∧ b ≤ 90) : lN (beN e * 256 ^ (8 - e.length)) = lN (beN p * 256 ^ (8 - p.length)) ↔ e = p := by
  rw [lN_inj (pre_lt he h1) (pre_lt (by omega) h2)]
  constructor
  · intro h
    rw [hl] at h
    have := Nat.eq_of_mul_eq_mul_right (Nat.pow_pos (by decide)) h
    exact beN_inj hl (fun b hb => by have := h1 b hb; omega) (fun b hb => by have := h2 b hb; omega) this
  · intro h
    rw [h]
set_option maxRecDepth 20000 in
theorem c_Mod_route0 {G : Gt} {o : Nat} {A : Nat → Nat} {Fi : Nat → Int32} {M : Nat → Nat → Int32} {Ml : Nat → Nat → Int64} {x one two len mn ot : Int32} (hx : (swB x && inZ len (nI 1) (nI 8)) = false) : CallR G m_Mod_route 2 27 [.ref o, .int x, .int one, .int two, .int len, .int mn, .int ot] (hM o A Fi M Ml) 0 0 none (hM o A (va_up Fi 0 (nI 1)) M Ml) := by
  refine CallS.of (Nat.le_of_ble_eq_true rfl) ?_
  refine wp_aload_n d_Mod_route_0 rfl 0 rfl ?_
  refine wp_iload_n d_Mod_route_1 rfl 1 rfl ?_
  refine wp_callV (r := 1) d_Mod_route_2 (link_S (av := [.int x]) (rest := [.ref o]) d_Mod_route_2 cal_Mod_isSwitch wM_Mod_123 rfl) cal_Mod_isSwitch (c_Mod_isSwitch x) (Nat.le_of_ble_eq_true rfl) ⟨Nat.le_of_ble_eq_true rfl, Nat.le_of_ble_eq_true rfl⟩ ?_
  refine wp_if_eqB (tgt := 23) d_Mod_route_5 (by decide) (fun c5 => ?_) (fun c5 => ?_)
  · refine wp_iconst (v := nI 1) d_Mod_route_23 (by decide) ?_
    refine wm_put (Fi' := va_up Fi 0 (nI 1)) d_Mod_route_24 0 (by decide) wF_Mod_111 rfl (by decide) rfl ?_
    refine wp_lconst (v := lN 0) d_Mod_route_27 (by decide) ?_
    refine wp_lstore (lv' := [(7, .long (lN 0)), (0, .ref o), (1, .int x), (2, .int one), (3, .int two), (4, .int len), (5, .int mn), (6, .int ot)]) d_Mod_route_28 (by decide) rfl ?_
    refine wp_iconst (v := nI 0) d_Mod_route_30 (by decide) ?_
    refine wp_istore (lv' := [(9, .int (nI 0)), (7, .long (lN 0)), (0, .ref o), (1, .int x), (2, .int one), (3, .int two), (4, .int len), (5, .int mn), (6, .int ot)]) d_Mod_route_31 (by decide) rfl ?_
    refine wp_iload d_Mod_route_33 0 rfl ?_
    refine wp_bipush (v := nI 8) d_Mod_route_35 (by decide) ?_
    refine wp_geN (tgt := 117) d_Mod_route_37 (by decide) (by omega) (by omega) (fun c => absurd c (by decide)) (fun _ => ?_)
    refine wp_aload_n d_Mod_route_40 rfl 2 rfl ?_
    refine wm_get d_Mod_route_41 0 (by decide) wF_Mod_111 rfl ?_
    refine wp_toI (z := (nI 1)) (rfl) ?_
    refine wp_if_neN (tgt := 117) d_Mod_route_44 (by decide) (by omega) (fun _ => ?_) (fun c => absurd c (by decide))
    refine wp_aload_n d_Mod_route_117 rfl 2 rfl ?_
    refine wm_get d_Mod_route_118 0 (by decide) wF_Mod_111 rfl ?_
    refine wp_toI (z := (nI 1)) (rfl) ?_
    refine wp_if_neN (tgt := 174) d_Mod_route_121 (by decide) (by omega) (fun _ => ?_) (fun c => absurd c (by decide))
    refine wp_iconst (v := nI 0) d_Mod_route_174 (by decide) ?_
    refine wp_istore (lv' := [(9, .int (nI 0)), (7, .long (lN 0)), (0, .ref o), (1, .int x), (2, .int one), (3, .int two), (4, .int len), (5, .int mn), (6, .int ot)]) d_Mod_route_175 (by decide) rfl ?_
    refine wp_aload_n d_Mod_route_177 rfl 2 rfl ?_
    refine wm_get d_Mod_route_178 0 (by decide) wF_Mod_111 rfl ?_
    refine wp_toI (z := (nI 1)) (rfl) ?_
    refine wp_if_neN (tgt := 241) d_Mod_route_181 (by decide) (by omega) (fun _ => ?_) (fun c => absurd c (by decide))
    refine wp_aload_n d_Mod_route_241 rfl 2 rfl ?_
    refine wm_get d_Mod_route_242 0 (by decide) wF_Mod_111 rfl ?_
    refine wp_toI (z := (nI 1)) (rfl) ?_
    refine wp_if_leN (tgt := 249) d_Mod_route_245 (by decide) (by omega) (fun c => absurd c (by decide)) (fun _ => ?_)
    exact wp_vret d_Mod_route_248 rfl ⟨rfl, rfl⟩
  · refine wp_iload d_Mod_route_8 4 rfl ?_
    refine wp_iconst (v := nI 1) d_Mod_route_10 (by decide) ?_
    refine wp_bipush (v := nI 8) d_Mod_route_11 (by decide) ?_
    refine wp_callV (r := 1) d_Mod_route_13 (link_S (av := [.int len, .int (nI 1), .int (nI 8)]) (rest := [.ref o]) d_Mod_route_13 cal_Mod_in wM_Mod_115 rfl) cal_Mod_in (c_Mod_in len (nI 1) (nI 8)) (Nat.le_of_ble_eq_true rfl) ⟨Nat.le_of_ble_eq_true rfl, Nat.le_of_ble_eq_true rfl⟩ ?_
    refine wp_if_eqB (tgt := 23) d_Mod_route_16 (by decide) (fun c16 => ?_) (fun c16 => ?_)
    · refine wp_iconst (v := nI 1) d_Mod_route_23 (by decide) ?_
      refine wm_put (Fi' := va_up Fi 0 (nI 1)) d_Mod_route_24 0 (by decide) wF_Mod_111 rfl (by decide) rfl ?_
      refine wp_lconst (v := lN 0) d_Mod_route_27 (by decide) ?_
      refine wp_lstore (lv' := [(7, .long (lN 0)), (0, .ref o), (1, .int x), (2, .int one), (3, .int two), (4, .int len), (5, .int mn), (6, .int ot)]) d_Mod_route_28 (by decide) rfl ?_
      refine wp_iconst (v := nI 0) d_Mod_route_30 (by decide) ?_
      refine wp_istore (lv' := [(9, .int (nI 0)), (7, .long (lN 0)), (0, .ref o), (1, .int x), (2, .int one), (3, .int two), (4, .int len), (5, .int mn), (6, .int ot)]) d_Mod_route_31 (by decide) rfl ?_
      refine wp_iload d_Mod_route_33 0 rfl ?_
      refine wp_bipush (v := nI 8) d_Mod_route_35 (by decide) ?_
      refine wp_geN (tgt := 117) d_Mod_route_37 (by decide) (by omega) (by omega) (fun c => absurd c (by decide)) (fun _ => ?_)
      refine wp_aload_n d_Mod_route_40 rfl 2 rfl ?_
      refine wm_get d_Mod_route_41 0 (by decide) wF_Mod_111 rfl ?_
      refine wp_toI (z := (nI 1)) (rfl) ?_
      refine wp_if_neN (tgt := 117) d_Mod_route_44 (by decide) (by omega) (fun _ => ?_) (fun c => absurd c (by decide))
      refine wp_aload_n d_Mod_route_117 rfl 2 rfl ?_
      refine wm_get d_Mod_route_118 0 (by decide) wF_Mod_111 rfl ?_
      refine wp_toI (z := (nI 1)) (rfl) ?_
      refine wp_if_neN (tgt := 174) d_Mod_route_121 (by decide) (by omega) (fun _ => ?_) (fun c => absurd c (by decide))
      refine wp_iconst (v := nI 0) d_Mod_route_174 (by decide) ?_
      refine wp_istore (lv' := [(9, .int (nI 0)), (7, .long (lN 0)), (0, .ref o), (1, .int x), (2, .int one), (3, .int two), (4, .int len), (5, .int mn), (6, .int ot)]) d_Mod_route_175 (by decide) rfl ?_
      refine wp_aload_n d_Mod_route_177 rfl 2 rfl ?_
      refine wm_get d_Mod_route_178 0 (by decide) wF_Mod_111 rfl ?_
      refine wp_toI (z := (nI 1)) (rfl) ?_
      refine wp_if_neN (tgt := 241) d_Mod_route_181 (by decide) (by omega) (fun _ => ?_) (fun c => absurd c (by decide))
      refine wp_aload_n d_Mod_route_241 rfl 2 rfl ?_
      refine wm_get d_Mod_route_242 0 (by decide) wF_Mod_111 rfl ?_
      refine wp_toI (z := (nI 1)) (rfl) ?_
      refine wp_if_leN (tgt := 249) d_Mod_route_245 (by decide) (by omega) (fun c => absurd c (by decide)) (fun _ => ?_)
      exact wp_vret d_Mod_route_248 rfl ⟨rfl, rfl⟩
    · exact absurd hx (by rw [show swB x = true from c5, c16]; decide)
set_option maxRecDepth 20000 in
theorem l_Mod_route1 {G : Gt} {B : Bt} {o : Nat} {A : Nat → Nat} {Fi : Nat → Int32} {M : Nat → Nat → Int32} {Ml : Nat → Nat → Int64} {one two mn ot : Int32} {j len : Nat} (hlen : len ≤ 8) (hF : Fi 0 = nI 0) (hB : Bd B = 3 ∧ Bw B = 41) (KB : pfxOK one two len = false → WP G m_Mod_route B 117 [(0, .ref o), (1, .int (nI j)), (4, .int (nI len)), (5, .int mn), (6, .int ot)] [] (hM o A (va_up Fi 0 (nI 1)) M Ml) 0 0) (KG : (∀ k, k < 8 → pOK1 one two len k = true) → WP G m_Mod_route B 117 [(7, .long (lN (pb8 one two 8))), (0, .ref o), (1, .int (nI j)), (4, .int (nI len)), (5, .int mn), (6, .int ot)] [] (hM o A Fi M Ml) 0 0) : ∀ (f k : Nat), 8 - k < f → k ≤ 8 → (∀ i, i < k → pOK1 one two len i = true) → WP G m_Mod_route B 33 [(9, .int (nI k)), (7, .long (lN (pb8 one two k))), (0, .ref o), (1, .int (nI j)), (2, .int one), (3, .int two), (4, .int (nI len)), (5, .int mn), (6, .int ot)] [] (hM o A Fi M Ml) 0 0 := by
  intro f
  induction f with
  | zero =>
    intro k h1
    omega
  | succ f ih =>
    intro k hf hk hok
    have hpb := pbyte_lt one two k
    have hw8 : k < 8 → pb8 one two k < 2 ^ 56 := fun h => Nat.lt_of_lt_of_le (pb8_lt one two k) (Nat.pow_le_pow_right (n := 256) (j := 7) (by decide) (by omega))
    refine wp_iload d_Mod_route_33 0 rfl ?_
    refine wp_bipush (v := nI 8) d_Mod_route_35 (by decide) ?_
    refine wp_geN (tgt := 117) d_Mod_route_37 (by decide) (by omega) (by omega) (fun c37 => ?_) (fun c37 => ?_)
    · obtain rfl : k = 8 := by omega
      refine wp_lv [1, 2, 3, 6, 7, 8] rfl ?_
      exact KG (fun i hi => hok i (by omega))
    · refine wp_aload_n d_Mod_route_40 rfl 2 rfl ?_
      refine wm_get d_Mod_route_41 0 (by decide) wF_Mod_111 rfl ?_
      refine wp_toI (z := (nI 0)) (hF) ?_
      refine wp_if_neN (tgt := 117) d_Mod_route_44 (by decide) (by omega) (fun c => absurd c (by decide)) (fun _ => ?_)
      refine wp_iload d_Mod_route_47 0 rfl ?_
      refine wp_iconst (v := nI 4) d_Mod_route_49 (by decide) ?_
      refine wp_geN (tgt := 57) d_Mod_route_50 (by decide) (by omega) (by omega) (fun c50 => ?_) (fun c50 => ?_)
      · refine wp_iload_n d_Mod_route_57 rfl 5 rfl ?_
        refine wp_bipush (v := nI 8) d_Mod_route_58 (by decide) ?_
        refine wp_iload d_Mod_route_60 0 rfl ?_
        refine wp_iconst (v := nI 4) d_Mod_route_62 (by decide) ?_
        refine wp_iremN d_Mod_route_63 (by omega) (by omega) (by omega) ?_
        refine wp_imulN d_Mod_route_64 ?_
        refine wp_ishr d_Mod_route_65 ?_
        refine wp_sipush (v := nI 255) d_Mod_route_66 (by decide) ?_
        refine wp_iand d_Mod_route_69 ?_
        refine wp_toI (z := nI (pbyte one two k)) (by first | exact pbyte_a c50 | exact pbyte_b c50 (by omega)) ?_
        refine wp_istore (lv' := [(10, .int (nI (pbyte one two k))), (9, .int (nI k)), (7, .long (lN (pb8 one two k))), (0, .ref o), (1, .int (nI j)), (2, .int one), (3, .int two), (4, .int (nI len)), (5, .int mn), (6, .int ot)]) d_Mod_route_70 (by decide) rfl ?_
        refine wp_iload d_Mod_route_72 1 rfl ?_
        refine wp_iload d_Mod_route_74 7 rfl ?_
        refine wp_geN (tgt := 90) d_Mod_route_76 (by decide) (by omega) (by omega) (fun c76 => ?_) (fun c76 => ?_)
        · refine wp_iload d_Mod_route_90 0 rfl ?_
          refine wp_if_eqN (tgt := 100) d_Mod_route_92 (by decide) (by omega) (fun c92 => ?_) (fun c92 => ?_)
          · refine wp_lload d_Mod_route_100 2 rfl ?_
            refine wp_bipush (v := nI 8) d_Mod_route_102 (by decide) ?_
            refine wp_lshlN d_Mod_route_104 (by omega) ?_
            refine wp_iload d_Mod_route_105 0 rfl ?_
            refine wp_i2lN d_Mod_route_107 (by omega) ?_
            have hw9 := hw8 (by omega)
            refine wp_lorN d_Mod_route_108 (by omega) (by omega) ?_
            refine wp_toL (z := lN (pb8 one two (k + 1))) (by rw [or_add (by omega), pb8_s]) ?_
            refine wp_lstore (lv' := [(7, .long (lN (pb8 one two (k + 1)))), (10, .int (nI (pbyte one two k))), (9, .int (nI k)), (0, .ref o), (1, .int (nI j)), (2, .int one), (3, .int two), (4, .int (nI len)), (5, .int mn), (6, .int ot)]) d_Mod_route_109 (by decide) rfl ?_
            refine wp_iinc (lv' := [(9, .int (nI (k + 1))), (7, .long (lN (pb8 one two (k + 1)))), (10, .int (nI (pbyte one two k))), (0, .ref o), (1, .int (nI j)), (2, .int one), (3, .int two), (4, .int (nI len)), (5, .int mn), (6, .int ot)]) d_Mod_route_111 2 rfl (nI_1 _) (by decide) rfl ?_
            refine wp_goto (tgt := 33) d_Mod_route_114 (by decide) ?_
            refine wp_lv [0, 1, 3, 4, 5, 6, 7, 8, 9] rfl ?_
            exact ih (k + 1) (by omega) (by omega) (fun i hi => by rcases Nat.lt_or_ge i k with h | h; (exact hok i h); (obtain rfl : i = k := (by omega); exact (by unfold pOK1; first | (rw [if_pos c76]; rw [inZ_nI (by omega) (by decide) (by decide)] at c84; exact c84) | (rw [if_neg (by omega)]; exact beq_iff_eq.mpr c92))))
          · refine wp_aload_n d_Mod_route_95 rfl 3 rfl ?_
            refine wp_iconst (v := nI 1) d_Mod_route_96 (by decide) ?_
            refine wm_put (Fi' := va_up Fi 0 (nI 1)) d_Mod_route_97 0 (by decide) wF_Mod_111 rfl (by decide) rfl ?_
            refine wp_lload d_Mod_route_100 2 rfl ?_
            refine wp_bipush (v := nI 8) d_Mod_route_102 (by decide) ?_
            refine wp_lshlN d_Mod_route_104 (by omega) ?_
            refine wp_iload d_Mod_route_105 0 rfl ?_
            refine wp_i2lN d_Mod_route_107 (by omega) ?_
            have hw9 := hw8 (by omega)
            refine wp_lorN d_Mod_route_108 (by omega) (by omega) ?_
            refine wp_toL (z := lN (pb8 one two (k + 1))) (by rw [or_add (by omega), pb8_s]) ?_
            refine wp_lstore (lv' := [(7, .long (lN (pb8 one two (k + 1)))), (10, .int (nI (pbyte one two k))), (9, .int (nI k)), (0, .ref o), (1, .int (nI j)), (2, .int one), (3, .int two), (4, .int (nI len)), (5, .int mn), (6, .int ot)]) d_Mod_route_109 (by decide) rfl ?_
            refine wp_iinc (lv' := [(9, .int (nI (k + 1))), (7, .long (lN (pb8 one two (k + 1)))), (10, .int (nI (pbyte one two k))), (0, .ref o), (1, .int (nI j)), (2, .int one), (3, .int two), (4, .int (nI len)), (5, .int mn), (6, .int ot)]) d_Mod_route_111 2 rfl (nI_1 _) (by decide) rfl ?_
            refine wp_goto (tgt := 33) d_Mod_route_114 (by decide) ?_
            refine wp_iload d_Mod_route_33 0 rfl ?_
            refine wp_bipush (v := nI 8) d_Mod_route_35 (by decide) ?_
            refine wp_geN (tgt := 117) d_Mod_route_37 (by decide) (by omega) (by omega) (fun c37 => ?_) (fun c37 => ?_)
            · refine wp_lv [3, 4, 7, 8, 9] rfl ?_
              exact KB (pfx_bad (k := k) (by omega) (by unfold pOK1; first | (rw [if_pos c76]; rw [inZ_nI (by omega) (by decide) (by decide)] at c84; exact c84) | (rw [if_neg (by omega)]; exact beq_eq_false_iff_ne.mpr (by omega))))
            · refine wp_aload_n d_Mod_route_40 rfl 3 rfl ?_
              refine wm_get d_Mod_route_41 0 (by decide) wF_Mod_111 rfl ?_
              refine wp_toI (z := (nI 1)) (rfl) ?_
              refine wp_if_neN (tgt := 117) d_Mod_route_44 (by decide) (by omega) (fun _ => ?_) (fun c => absurd c (by decide))
              refine wp_lv [3, 4, 7, 8, 9] rfl ?_
              exact KB (pfx_bad (k := k) (by omega) (by unfold pOK1; first | (rw [if_pos c76]; rw [inZ_nI (by omega) (by decide) (by decide)] at c84; exact c84) | (rw [if_neg (by omega)]; exact beq_eq_false_iff_ne.mpr (by omega))))
        · refine wp_iload d_Mod_route_79 0 rfl ?_
          refine wp_callV (r := 0) d_Mod_route_81 (link_S (av := [.int (nI (pbyte one two k))]) (rest := []) d_Mod_route_81 cal_Mod_isLetter wM_Mod_130 rfl) cal_Mod_isLetter (c_Mod_isLetter (nI (pbyte one two k))) (Nat.le_of_ble_eq_true rfl) ⟨by rw [hB.1]; decide, by rw [hB.2]; decide⟩ ?_
          refine wp_if_neB (tgt := 100) d_Mod_route_84 (by decide) (fun c84 => ?_) (fun c84 => ?_)
          · refine wp_lload d_Mod_route_100 2 rfl ?_
            refine wp_bipush (v := nI 8) d_Mod_route_102 (by decide) ?_
            refine wp_lshlN d_Mod_route_104 (by omega) ?_
            refine wp_iload d_Mod_route_105 0 rfl ?_
            refine wp_i2lN d_Mod_route_107 (by omega) ?_
            have hw9 := hw8 (by omega)
            refine wp_lorN d_Mod_route_108 (by omega) (by omega) ?_
            refine wp_toL (z := lN (pb8 one two (k + 1))) (by rw [or_add (by omega), pb8_s]) ?_
            refine wp_lstore (lv' := [(7, .long (lN (pb8 one two (k + 1)))), (10, .int (nI (pbyte one two k))), (9, .int (nI k)), (0, .ref o), (1, .int (nI j)), (2, .int one), (3, .int two), (4, .int (nI len)), (5, .int mn), (6, .int ot)]) d_Mod_route_109 (by decide) rfl ?_
            refine wp_iinc (lv' := [(9, .int (nI (k + 1))), (7, .long (lN (pb8 one two (k + 1)))), (10, .int (nI (pbyte one two k))), (0, .ref o), (1, .int (nI j)), (2, .int one), (3, .int two), (4, .int (nI len)), (5, .int mn), (6, .int ot)]) d_Mod_route_111 2 rfl (nI_1 _) (by decide) rfl ?_
            refine wp_goto (tgt := 33) d_Mod_route_114 (by decide) ?_
            refine wp_lv [0, 1, 3, 4, 5, 6, 7, 8, 9] rfl ?_
            exact ih (k + 1) (by omega) (by omega) (fun i hi => by rcases Nat.lt_or_ge i k with h | h; (exact hok i h); (obtain rfl : i = k := (by omega); exact (by unfold pOK1; first | (rw [if_pos c76]; rw [inZ_nI (by omega) (by decide) (by decide)] at c84; exact c84) | (rw [if_neg (by omega)]; exact beq_iff_eq.mpr c92))))
          · refine wp_goto (tgt := 95) d_Mod_route_87 (by decide) ?_
            refine wp_aload_n d_Mod_route_95 rfl 3 rfl ?_
            refine wp_iconst (v := nI 1) d_Mod_route_96 (by decide) ?_
            refine wm_put (Fi' := va_up Fi 0 (nI 1)) d_Mod_route_97 0 (by decide) wF_Mod_111 rfl (by decide) rfl ?_
            refine wp_lload d_Mod_route_100 2 rfl ?_
            refine wp_bipush (v := nI 8) d_Mod_route_102 (by decide) ?_
            refine wp_lshlN d_Mod_route_104 (by omega) ?_
            refine wp_iload d_Mod_route_105 0 rfl ?_
            refine wp_i2lN d_Mod_route_107 (by omega) ?_
            have hw9 := hw8 (by omega)
            refine wp_lorN d_Mod_route_108 (by omega) (by omega) ?_
            refine wp_toL (z := lN (pb8 one two (k + 1))) (by rw [or_add (by omega), pb8_s]) ?_
            refine wp_lstore (lv' := [(7, .long (lN (pb8 one two (k + 1)))), (10, .int (nI (pbyte one two k))), (9, .int (nI k)), (0, .ref o), (1, .int (nI j)), (2, .int one), (3, .int two), (4, .int (nI len)), (5, .int mn), (6, .int ot)]) d_Mod_route_109 (by decide) rfl ?_
            refine wp_iinc (lv' := [(9, .int (nI (k + 1))), (7, .long (lN (pb8 one two (k + 1)))), (10, .int (nI (pbyte one two k))), (0, .ref o), (1, .int (nI j)), (2, .int one), (3, .int two), (4, .int (nI len)), (5, .int mn), (6, .int ot)]) d_Mod_route_111 2 rfl (nI_1 _) (by decide) rfl ?_
            refine wp_goto (tgt := 33) d_Mod_route_114 (by decide) ?_
            refine wp_iload d_Mod_route_33 0 rfl ?_
            refine wp_bipush (v := nI 8) d_Mod_route_35 (by decide) ?_
            refine wp_geN (tgt := 117) d_Mod_route_37 (by decide) (by omega) (by omega) (fun c37 => ?_) (fun c37 => ?_)
            · refine wp_lv [3, 4, 7, 8, 9] rfl ?_
              exact KB (pfx_bad (k := k) (by omega) (by unfold pOK1; first | (rw [if_pos c76]; rw [inZ_nI (by omega) (by decide) (by decide)] at c84; exact c84) | (rw [if_neg (by omega)]; exact beq_eq_false_iff_ne.mpr (by omega))))
            · refine wp_aload_n d_Mod_route_40 rfl 3 rfl ?_
              refine wm_get d_Mod_route_41 0 (by decide) wF_Mod_111 rfl ?_
              refine wp_toI (z := (nI 1)) (rfl) ?_
              refine wp_if_neN (tgt := 117) d_Mod_route_44 (by decide) (by omega) (fun _ => ?_) (fun c => absurd c (by decide))
              refine wp_lv [3, 4, 7, 8, 9] rfl ?_
              exact KB (pfx_bad (k := k) (by omega) (by unfold pOK1; first | (rw [if_pos c76]; rw [inZ_nI (by omega) (by decide) (by decide)] at c84; exact c84) | (rw [if_neg (by omega)]; exact beq_eq_false_iff_ne.mpr (by omega))))
      · refine wp_iload_n d_Mod_route_53 rfl 4 rfl ?_
        refine wp_goto (tgt := 58) d_Mod_route_54 (by decide) ?_
        refine wp_bipush (v := nI 8) d_Mod_route_58 (by decide) ?_
        refine wp_iload d_Mod_route_60 0 rfl ?_
        refine wp_iconst (v := nI 4) d_Mod_route_62 (by decide) ?_
        refine wp_iremN d_Mod_route_63 (by omega) (by omega) (by omega) ?_
        refine wp_imulN d_Mod_route_64 ?_
        refine wp_ishr d_Mod_route_65 ?_
        refine wp_sipush (v := nI 255) d_Mod_route_66 (by decide) ?_
        refine wp_iand d_Mod_route_69 ?_
        refine wp_toI (z := nI (pbyte one two k)) (by first | exact pbyte_a c50 | exact pbyte_b c50 (by omega)) ?_
        refine wp_istore (lv' := [(10, .int (nI (pbyte one two k))), (9, .int (nI k)), (7, .long (lN (pb8 one two k))), (0, .ref o), (1, .int (nI j)), (2, .int one), (3, .int two), (4, .int (nI len)), (5, .int mn), (6, .int ot)]) d_Mod_route_70 (by decide) rfl ?_
        refine wp_iload d_Mod_route_72 1 rfl ?_
        refine wp_iload d_Mod_route_74 7 rfl ?_
        refine wp_geN (tgt := 90) d_Mod_route_76 (by decide) (by omega) (by omega) (fun c76 => ?_) (fun c76 => ?_)
        · refine wp_iload d_Mod_route_90 0 rfl ?_
          refine wp_if_eqN (tgt := 100) d_Mod_route_92 (by decide) (by omega) (fun c92 => ?_) (fun c92 => ?_)
          · refine wp_lload d_Mod_route_100 2 rfl ?_
            refine wp_bipush (v := nI 8) d_Mod_route_102 (by decide) ?_
            refine wp_lshlN d_Mod_route_104 (by omega) ?_
            refine wp_iload d_Mod_route_105 0 rfl ?_
            refine wp_i2lN d_Mod_route_107 (by omega) ?_
            have hw9 := hw8 (by omega)
            refine wp_lorN d_Mod_route_108 (by omega) (by omega) ?_
            refine wp_toL (z := lN (pb8 one two (k + 1))) (by rw [or_add (by omega), pb8_s]) ?_
            refine wp_lstore (lv' := [(7, .long (lN (pb8 one two (k + 1)))), (10, .int (nI (pbyte one two k))), (9, .int (nI k)), (0, .ref o), (1, .int (nI j)), (2, .int one), (3, .int two), (4, .int (nI len)), (5, .int mn), (6, .int ot)]) d_Mod_route_109 (by decide) rfl ?_
            refine wp_iinc (lv' := [(9, .int (nI (k + 1))), (7, .long (lN (pb8 one two (k + 1)))), (10, .int (nI (pbyte one two k))), (0, .ref o), (1, .int (nI j)), (2, .int one), (3, .int two), (4, .int (nI len)), (5, .int mn), (6, .int ot)]) d_Mod_route_111 2 rfl (nI_1 _) (by decide) rfl ?_
            refine wp_goto (tgt := 33) d_Mod_route_114 (by decide) ?_
            refine wp_lv [0, 1, 3, 4, 5, 6, 7, 8, 9] rfl ?_
            exact ih (k + 1) (by omega) (by omega) (fun i hi => by rcases Nat.lt_or_ge i k with h | h; (exact hok i h); (obtain rfl : i = k := (by omega); exact (by unfold pOK1; first | (rw [if_pos c76]; rw [inZ_nI (by omega) (by decide) (by decide)] at c84; exact c84) | (rw [if_neg (by omega)]; exact beq_iff_eq.mpr c92))))
          · refine wp_aload_n d_Mod_route_95 rfl 3 rfl ?_
            refine wp_iconst (v := nI 1) d_Mod_route_96 (by decide) ?_
            refine wm_put (Fi' := va_up Fi 0 (nI 1)) d_Mod_route_97 0 (by decide) wF_Mod_111 rfl (by decide) rfl ?_
            refine wp_lload d_Mod_route_100 2 rfl ?_
            refine wp_bipush (v := nI 8) d_Mod_route_102 (by decide) ?_
            refine wp_lshlN d_Mod_route_104 (by omega) ?_
            refine wp_iload d_Mod_route_105 0 rfl ?_
            refine wp_i2lN d_Mod_route_107 (by omega) ?_
            have hw9 := hw8 (by omega)
            refine wp_lorN d_Mod_route_108 (by omega) (by omega) ?_
            refine wp_toL (z := lN (pb8 one two (k + 1))) (by rw [or_add (by omega), pb8_s]) ?_
            refine wp_lstore (lv' := [(7, .long (lN (pb8 one two (k + 1)))), (10, .int (nI (pbyte one two k))), (9, .int (nI k)), (0, .ref o), (1, .int (nI j)), (2, .int one), (3, .int two), (4, .int (nI len)), (5, .int mn), (6, .int ot)]) d_Mod_route_109 (by decide) rfl ?_
            refine wp_iinc (lv' := [(9, .int (nI (k + 1))), (7, .long (lN (pb8 one two (k + 1)))), (10, .int (nI (pbyte one two k))), (0, .ref o), (1, .int (nI j)), (2, .int one), (3, .int two), (4, .int (nI len)), (5, .int mn), (6, .int ot)]) d_Mod_route_111 2 rfl (nI_1 _) (by decide) rfl ?_
            refine wp_goto (tgt := 33) d_Mod_route_114 (by decide) ?_
            refine wp_iload d_Mod_route_33 0 rfl ?_
            refine wp_bipush (v := nI 8) d_Mod_route_35 (by decide) ?_
            refine wp_geN (tgt := 117) d_Mod_route_37 (by decide) (by omega) (by omega) (fun c37 => ?_) (fun c37 => ?_)
            · refine wp_lv [3, 4, 7, 8, 9] rfl ?_
              exact KB (pfx_bad (k := k) (by omega) (by unfold pOK1; first | (rw [if_pos c76]; rw [inZ_nI (by omega) (by decide) (by decide)] at c84; exact c84) | (rw [if_neg (by omega)]; exact beq_eq_false_iff_ne.mpr (by omega))))
            · refine wp_aload_n d_Mod_route_40 rfl 3 rfl ?_
              refine wm_get d_Mod_route_41 0 (by decide) wF_Mod_111 rfl ?_
              refine wp_toI (z := (nI 1)) (rfl) ?_
              refine wp_if_neN (tgt := 117) d_Mod_route_44 (by decide) (by omega) (fun _ => ?_) (fun c => absurd c (by decide))
              refine wp_lv [3, 4, 7, 8, 9] rfl ?_
              exact KB (pfx_bad (k := k) (by omega) (by unfold pOK1; first | (rw [if_pos c76]; rw [inZ_nI (by omega) (by decide) (by decide)] at c84; exact c84) | (rw [if_neg (by omega)]; exact beq_eq_false_iff_ne.mpr (by omega))))
        · refine wp_iload d_Mod_route_79 0 rfl ?_
          refine wp_callV (r := 0) d_Mod_route_81 (link_S (av := [.int (nI (pbyte one two k))]) (rest := []) d_Mod_route_81 cal_Mod_isLetter wM_Mod_130 rfl) cal_Mod_isLetter (c_Mod_isLetter (nI (pbyte one two k))) (Nat.le_of_ble_eq_true rfl) ⟨by rw [hB.1]; decide, by rw [hB.2]; decide⟩ ?_
          refine wp_if_neB (tgt := 100) d_Mod_route_84 (by decide) (fun c84 => ?_) (fun c84 => ?_)
          · refine wp_lload d_Mod_route_100 2 rfl ?_
            refine wp_bipush (v := nI 8) d_Mod_route_102 (by decide) ?_
            refine wp_lshlN d_Mod_route_104 (by omega) ?_
            refine wp_iload d_Mod_route_105 0 rfl ?_
            refine wp_i2lN d_Mod_route_107 (by omega) ?_
            have hw9 := hw8 (by omega)
            refine wp_lorN d_Mod_route_108 (by omega) (by omega) ?_
            refine wp_toL (z := lN (pb8 one two (k + 1))) (by rw [or_add (by omega), pb8_s]) ?_
            refine wp_lstore (lv' := [(7, .long (lN (pb8 one two (k + 1)))), (10, .int (nI (pbyte one two k))), (9, .int (nI k)), (0, .ref o), (1, .int (nI j)), (2, .int one), (3, .int two), (4, .int (nI len)), (5, .int mn), (6, .int ot)]) d_Mod_route_109 (by decide) rfl ?_
            refine wp_iinc (lv' := [(9, .int (nI (k + 1))), (7, .long (lN (pb8 one two (k + 1)))), (10, .int (nI (pbyte one two k))), (0, .ref o), (1, .int (nI j)), (2, .int one), (3, .int two), (4, .int (nI len)), (5, .int mn), (6, .int ot)]) d_Mod_route_111 2 rfl (nI_1 _) (by decide) rfl ?_
            refine wp_goto (tgt := 33) d_Mod_route_114 (by decide) ?_
            refine wp_lv [0, 1, 3, 4, 5, 6, 7, 8, 9] rfl ?_
            exact ih (k + 1) (by omega) (by omega) (fun i hi => by rcases Nat.lt_or_ge i k with h | h; (exact hok i h); (obtain rfl : i = k := (by omega); exact (by unfold pOK1; first | (rw [if_pos c76]; rw [inZ_nI (by omega) (by decide) (by decide)] at c84; exact c84) | (rw [if_neg (by omega)]; exact beq_iff_eq.mpr c92))))
          · refine wp_goto (tgt := 95) d_Mod_route_87 (by decide) ?_
            refine wp_aload_n d_Mod_route_95 rfl 3 rfl ?_
            refine wp_iconst (v := nI 1) d_Mod_route_96 (by decide) ?_
            refine wm_put (Fi' := va_up Fi 0 (nI 1)) d_Mod_route_97 0 (by decide) wF_Mod_111 rfl (by decide) rfl ?_
            refine wp_lload d_Mod_route_100 2 rfl ?_
            refine wp_bipush (v := nI 8) d_Mod_route_102 (by decide) ?_
            refine wp_lshlN d_Mod_route_104 (by omega) ?_
            refine wp_iload d_Mod_route_105 0 rfl ?_
            refine wp_i2lN d_Mod_route_107 (by omega) ?_
            have hw9 := hw8 (by omega)
            refine wp_lorN d_Mod_route_108 (by omega) (by omega) ?_
            refine wp_toL (z := lN (pb8 one two (k + 1))) (by rw [or_add (by omega), pb8_s]) ?_
            refine wp_lstore (lv' := [(7, .long (lN (pb8 one two (k + 1)))), (10, .int (nI (pbyte one two k))), (9, .int (nI k)), (0, .ref o), (1, .int (nI j)), (2, .int one), (3, .int two), (4, .int (nI len)), (5, .int mn), (6, .int ot)]) d_Mod_route_109 (by decide) rfl ?_
            refine wp_iinc (lv' := [(9, .int (nI (k + 1))), (7, .long (lN (pb8 one two (k + 1)))), (10, .int (nI (pbyte one two k))), (0, .ref o), (1, .int (nI j)), (2, .int one), (3, .int two), (4, .int (nI len)), (5, .int mn), (6, .int ot)]) d_Mod_route_111 2 rfl (nI_1 _) (by decide) rfl ?_
            refine wp_goto (tgt := 33) d_Mod_route_114 (by decide) ?_
            refine wp_iload d_Mod_route_33 0 rfl ?_
            refine wp_bipush (v := nI 8) d_Mod_route_35 (by decide) ?_
            refine wp_geN (tgt := 117) d_Mod_route_37 (by decide) (by omega) (by omega) (fun c37 => ?_) (fun c37 => ?_)
            · refine wp_lv [3, 4, 7, 8, 9] rfl ?_
              exact KB (pfx_bad (k := k) (by omega) (by unfold pOK1; first | (rw [if_pos c76]; rw [inZ_nI (by omega) (by decide) (by decide)] at c84; exact c84) | (rw [if_neg (by omega)]; exact beq_eq_false_iff_ne.mpr (by omega))))
            · refine wp_aload_n d_Mod_route_40 rfl 3 rfl ?_
              refine wm_get d_Mod_route_41 0 (by decide) wF_Mod_111 rfl ?_
              refine wp_toI (z := (nI 1)) (rfl) ?_
              refine wp_if_neN (tgt := 117) d_Mod_route_44 (by decide) (by omega) (fun _ => ?_) (fun c => absurd c (by decide))
              refine wp_lv [3, 4, 7, 8, 9] rfl ?_
              exact KB (pfx_bad (k := k) (by omega) (by unfold pOK1; first | (rw [if_pos c76]; rw [inZ_nI (by omega) (by decide) (by decide)] at c84; exact c84) | (rw [if_neg (by omega)]; exact beq_eq_false_iff_ne.mpr (by omega))))
set_option maxRecDepth 20000 in
theorem l_Mod_route2 {G : Gt} {B : Bt} {o : Nat} {A : Nat → Nat} {Fi : Nat → Int32} {M : Nat → Nat → Int32} {Ml : Nat → Nat → Int64} {R : Nat → List (List Nat × Option Nat × Option Nat)} (hI : mInj o A) (hRt : RRt R (M 10) (Ml 11) (M 12) (M 13) (M 14)) {mn ot : Int32} {j len W : Nat} (hj : j < 6) (hlen : 1 ≤ len ∧ len ≤ 8) (hR16 : (R j).length ≤ 16) {p : List Nat} (hp : p.length = len) (hp2 : ∀ b ∈ p, 65 ≤ b ∧ b ≤ 90) (hW : W = beN p * 256 ^ (8 - p.length)) (hRo : ∀ e ∈ R j, 1 ≤ e.1.length ∧ e.1.length ≤ 8 ∧ ∀ b ∈ e.1, 65 ≤ b ∧ b ≤ 90) (hF : Fi 0 = nI 0) (KB : (R j).any (fun e => e.1 == p) = true → WP G m_Mod_route B 241 [(0, .ref o), (1, .int (nI j)), (4, .int (nI len)), (5, .int mn), (6, .int ot)] [] (hM o A (va_up Fi 0 (nI 1)) M Ml) 0 0) (KG : (R j).any (fun e => e.1 == p) = false → WP G m_Mod_route B 241 [(7, .long (lN W)), (0, .ref o), (1, .int (nI j)), (4, .int (nI len)), (5, .int mn), (6, .int ot)] [] (hM o A Fi M Ml) 0 0) : ∀ (f k : Nat), (R j).length - k < f → k ≤ (R j).length → (∀ i e, i < k → (R j)[i]? = some e → e.1 ≠ p) → WP G m_Mod_route B 177 [(9, .int (nI k)), (7, .long (lN W)), (0, .ref o), (1, .int (nI j)), (4, .int (nI len)), (5, .int mn), (6, .int ot)] [] (hM o A Fi M Ml) 0 0 := by
  intro f
  induction f with
  | zero =>
    intro k h1
    omega
  | succ f ih =>
    intro k hf hk hne
    refine wp_aload_n d_Mod_route_177 rfl 2 rfl ?_
    refine wm_get d_Mod_route_178 0 (by decide) wF_Mod_111 rfl ?_
    refine wp_toI (z := (nI 0)) (hF) ?_
    refine wp_if_neN (tgt := 241) d_Mod_route_181 (by decide) (by omega) (fun c => absurd c (by decide)) (fun _ => ?_)
    refine wp_iload d_Mod_route_184 0 rfl ?_
    refine wp_aload_n d_Mod_route_186 rfl 2 rfl ?_
    refine wm_get d_Mod_route_187 10 (by decide) wF_Mod_32 rfl ?_
    refine wp_iload_n d_Mod_route_190 rfl 3 rfl ?_
    refine wm_ild (j := 10) (x := (nI ((R j).length))) d_Mod_route_191 hI (by decide) (by decide) (by show _ < 6; omega) (by decide) ((hRt j hj).1) ?_
    refine wp_geN (tgt := 241) d_Mod_route_192 (by decide) (by omega) (by omega) (fun c192 => ?_) (fun c192 => ?_)
    · obtain rfl : k = (R j).length := by omega
      refine wp_lv [1, 2, 3, 4, 5, 6] rfl ?_
      refine KG ?_
      rw [List.any_eq_false]
      intro e2 he2 q
      obtain ⟨i, hi, rfl⟩ := List.mem_iff_getElem.mp he2
      exact hne i _ hi (List.getElem?_eq_getElem hi) (by simpa using q)
    · obtain ⟨e, he⟩ := get_of c192
      have hem := List.mem_of_getElem? he
      have hrk := (hRt j hj).2 k e he
      have heo := hRo e hem
      refine wp_aload_n d_Mod_route_195 rfl 2 rfl ?_
      refine wm_get d_Mod_route_196 11 (by decide) wF_Mod_35 rfl ?_
      refine wp_bipush (v := nI 16) d_Mod_route_199 (by decide) ?_
      refine wp_iload_n d_Mod_route_201 rfl 3 rfl ?_
      refine wp_imulN d_Mod_route_202 ?_
      refine wp_iload d_Mod_route_203 0 rfl ?_
      refine wp_iaddN d_Mod_route_205 ?_
      refine wm_lld (j := 11) (x := (lN (beN e.1 * 256 ^ (8 - e.1.length)))) d_Mod_route_206 hI (by decide) (by decide) (by show _ < 96; omega) (by decide) (hrk.1) ?_
      refine wp_lload d_Mod_route_207 1 rfl ?_
      refine wp_lcmp d_Mod_route_209 ?_
      refine wp_if_neC (tgt := 235) d_Mod_route_210 (by decide) (fun c210 => ?_) (fun c210 => ?_)
      · refine wp_iinc (lv' := [(9, .int (nI (k + 1))), (7, .long (lN W)), (0, .ref o), (1, .int (nI j)), (4, .int (nI len)), (5, .int mn), (6, .int ot)]) d_Mod_route_235 0 rfl (nI_1 _) (by decide) rfl ?_
        refine wp_goto (tgt := 177) d_Mod_route_238 (by decide) ?_
        refine wp_lv [0, 1, 2, 3, 4, 5, 6] rfl ?_
        exact ih (k + 1) (by omega) (by omega) (fun i e2 hi he2 => by
          rcases Nat.lt_or_ge i k with h | h
          · exact hne i e2 h he2
          · obtain rfl : i = k := by omega
            rw [he] at he2
            cases he2
            intro q
            first
            | exact c227 (by rw [q, hp])
            | exact c210 (by rw [hW]; exact (pre_eq heo.2.1 (by rw [q]) heo.2.2 hp2).mpr q))
      · refine wp_aload_n d_Mod_route_213 rfl 2 rfl ?_
        refine wm_get d_Mod_route_214 12 (by decide) wF_Mod_39 rfl ?_
        refine wp_bipush (v := nI 16) d_Mod_route_217 (by decide) ?_
        refine wp_iload_n d_Mod_route_219 rfl 3 rfl ?_
        refine wp_imulN d_Mod_route_220 ?_
        refine wp_iload d_Mod_route_221 0 rfl ?_
        refine wp_iaddN d_Mod_route_223 ?_
        refine wm_ild (j := 12) (x := (nI (e.1.length))) d_Mod_route_224 hI (by decide) (by decide) (by show _ < 96; omega) (by decide) (hrk.2.1) ?_
        refine wp_iload d_Mod_route_225 4 rfl ?_
        refine wp_neN (tgt := 235) d_Mod_route_227 (by decide) (by omega) (by omega) (fun c227 => ?_) (fun c227 => ?_)
        · refine wp_iinc (lv' := [(9, .int (nI (k + 1))), (7, .long (lN W)), (0, .ref o), (1, .int (nI j)), (4, .int (nI len)), (5, .int mn), (6, .int ot)]) d_Mod_route_235 0 rfl (nI_1 _) (by decide) rfl ?_
          refine wp_goto (tgt := 177) d_Mod_route_238 (by decide) ?_
          refine wp_lv [0, 1, 2, 3, 4, 5, 6] rfl ?_
          exact ih (k + 1) (by omega) (by omega) (fun i e2 hi he2 => by
            rcases Nat.lt_or_ge i k with h | h
            · exact hne i e2 h he2
            · obtain rfl : i = k := by omega
              rw [he] at he2
              cases he2
              intro q
              first
              | exact c227 (by rw [q, hp])
              | exact c210 (by rw [hW]; exact (pre_eq heo.2.1 (by rw [q]) heo.2.2 hp2).mpr q))
        · refine wp_aload_n d_Mod_route_230 rfl 2 rfl ?_
          refine wp_iconst (v := nI 1) d_Mod_route_231 (by decide) ?_
          refine wm_put (Fi' := va_up Fi 0 (nI 1)) d_Mod_route_232 0 (by decide) wF_Mod_111 rfl (by decide) rfl ?_
          refine wp_iinc (lv' := [(9, .int (nI (k + 1))), (7, .long (lN W)), (0, .ref o), (1, .int (nI j)), (4, .int (nI len)), (5, .int mn), (6, .int ot)]) d_Mod_route_235 0 rfl (nI_1 _) (by decide) rfl ?_
          refine wp_goto (tgt := 177) d_Mod_route_238 (by decide) ?_
          refine wp_aload_n d_Mod_route_177 rfl 2 rfl ?_
          refine wm_get d_Mod_route_178 0 (by decide) wF_Mod_111 rfl ?_
          refine wp_toI (z := (nI 1)) (rfl) ?_
          refine wp_if_neN (tgt := 241) d_Mod_route_181 (by decide) (by omega) (fun _ => ?_) (fun c => absurd c (by decide))
          refine wp_lv [2, 3, 4, 5, 6] rfl ?_
          refine KB ?_
          rw [List.any_eq_true]
          refine ⟨e, hem, ?_⟩
          rw [hW] at c210
          simpa using (pre_eq heo.2.1 (by omega) heo.2.2 hp2).mp c210
theorem lnOr_of {s : Sa} {l : Int32} {x : Nat} (h : lnOrNone s l x = true) (hl : l ≠ -1) : ∃ j, j < 8 ∧ l = nI j ∧ atSw s j x = true := by
  unfold lnOrNone atB at h
  simp only [Bool.or_eq_true, decide_eq_true_eq, Bool.and_eq_true] at h
  rcases h with h | h
  · exact absurd h hl
  · obtain ⟨j, hj, rfl⟩ := inZ_of (by decide) h.1
    exact ⟨j, by omega, rfl, by have := h.2; rwa [nN_nI (by omega)] at this⟩
theorem o2i_i2o {s : Sa} {x : Nat} {l : Int32} (ln : l ≠ -1 → ∃ j, j < 8 ∧ l = nI j ∧ atSw s j x = true) : o2i (i2o l) = l := by
  unfold i2o
  split
  · rename_i h
    rw [h]
    rfl
  · rename_i h
    obtain ⟨j, hj, rfl, _⟩ := ln h
    rw [nN_nI (by omega)]
    rfl
set_option maxRecDepth 20000 in
theorem c_Mod_route1 {G : Gt} {o : Nat} {A : Nat → Nat} {Fi : Nat → Int32} {M : Nat → Nat → Int32} {Ml : Nat → Nat → Int64} {s : Sa} (hI : mInj o A) (hR : RepM s Fi M Ml) (hLb : ∀ l a b v, sLn s l = some (a, b, v) → a < 6 ∧ b < 6) (h16' : ∀ x, (sRt s x).length ≤ 16) {one two mn ot : Int32} {j len : Nat} (hj : j < 6) (hlen : 1 ≤ len ∧ len ≤ 8) (hRo : ∀ e ∈ sRt s j, 1 ≤ e.1.length ∧ e.1.length ≤ 8 ∧ ∀ b ∈ e.1, 65 ≤ b ∧ b ≤ 90) : CallE G m_Mod_route 3 41 [.ref o, .int (nI j), .int one, .int two, .int (nI len), .int mn, .int ot] (hM o A Fi M Ml) 0 0 none (RefOK o A (stRoute s (nI j) one two (nI len) mn ot)) := by
  have hs1 := swB_nI hj
  have hs2 : inZ (nI len) (nI 1) (nI 8) = true := by rw [inZ_nI (by omega) (by decide) (by decide)]; exact decide_eq_true (by omega)
  have hnj : nN (nI j) = j := nN_nI (by omega)
  have hnl : nN (nI len) = len := nN_nI (by omega)
  have hro : rtOK s (nI j) one two (nI len) mn ot = (pfxOK one two len && (lnOrNone s mn j && lnOrNone s ot j && !(decide (mn = ot ∧ mn ≠ -1))) && !((sRt s j).any fun e => e.1 == pfx one two len)) := by
    unfold rtOK
    rw [hs1, hs2, hnj, hnl]
    simp only [Bool.true_and]
  have hstB : (pfxOK one two len = false ∨ (lnOrNone s mn j && lnOrNone s ot j && !(decide (mn = ot ∧ mn ≠ -1))) = false ∨ (sRt s j).any (fun e => e.1 == pfx one two len) = true) → stRoute s (nI j) one two (nI len) mn ot = (1, 0, s) := fun h => by
    unfold stRoute
    rw [hro]
    rcases h with h | h | h <;> rw [h] <;> simp
  have hstG : pfxOK one two len = true → (lnOrNone s mn j && lnOrNone s ot j && !(decide (mn = ot ∧ mn ≠ -1))) = true → (sRt s j).any (fun e => e.1 == pfx one two len) = false → stRoute s (nI j) one two (nI len) mn ot = if (sRt s j).length = 16 then (2, 0, s) else (0, 0, wRt s (va_up (sRt s) j (sRt s j ++ [(pfx one two len, i2o mn, i2o ot)]))) := fun h1 h2 h3 => by
    unfold stRoute
    rw [hro, h1, h2, h3, hnj, hnl]
    rfl
  have hNew : (∀ k, k < 8 → pOK1 one two len k = true) → (lnOrNone s mn j && lnOrNone s ot j && !(decide (mn = ot ∧ mn ≠ -1))) = true → ¬ (sRt s j).length = 16 → RepM (wRt s (va_up (sRt s) j (sRt s j ++ [(pfx one two len, i2o mn, i2o ot)]))) (va_up Fi 0 (nI 0)) (u2 (u2 (u2 (u2 M 12 (16 * j + (sRt s j).length) (nI len)) 13 (16 * j + (sRt s j).length) mn) 14 (16 * j + (sRt s j).length) ot) 10 j (nI ((sRt s j).length + 1))) (u2l Ml 11 (16 * j + (sRt s j).length) (lN (pb8 one two 8))) := fun h1 h2 h3 => by
    obtain ⟨r1, r2, r3, r4, r5, r6, r7, r8, r9, r10, r11⟩ := hR
    refine ⟨r1, r2, r3, fun x hx => ?_, r5, r6, r7, r8, r9, r10, r11⟩
    show upd (M 10) j (nI ((sRt s j).length + 1)) x = nI (va_up (sRt s) j (sRt s j ++ [(pfx one two len, i2o mn, i2o ot)]) x).length ∧ ∀ k e, (va_up (sRt s) j (sRt s j ++ [(pfx one two len, i2o mn, i2o ot)]) x)[k]? = some e → vp_updL (Ml 11) (16 * j + (sRt s j).length) (lN (pb8 one two 8)) (16 * x + k) = lN (beN e.1 * 256 ^ (8 - e.1.length)) ∧ upd (M 12) (16 * j + (sRt s j).length) (nI len) (16 * x + k) = nI e.1.length ∧ upd (M 13) (16 * j + (sRt s j).length) mn (16 * x + k) = o2i e.2.1 ∧ upd (M 14) (16 * j + (sRt s j).length) ot (16 * x + k) = o2i e.2.2
    by_cases hxj : x = j
    · subst hxj
      rw [show va_up (sRt s) x (sRt s x ++ [(pfx one two len, i2o mn, i2o ot)]) x = sRt s x ++ [(pfx one two len, i2o mn, i2o ot)] by simp [va_up]]
      refine ⟨by simp [upd], fun k e he => ?_⟩
      by_cases hk : k = (sRt s x).length
      · subst hk
        simp at he
        subst he
        simp only [upd, vp_updL, if_true]
        refine ⟨by rw [pb8_pfx (by omega) h1, pfx_len], by rw [pfx_len], (o2i_i2o (s := s) (x := x) (ln := fun q => ?_)).symm, (o2i_i2o (s := s) (x := x) (ln := fun q => ?_)).symm⟩
        · simp only [Bool.and_eq_true] at h2
          exact lnOr_of h2.1.1 q
        · simp only [Bool.and_eq_true] at h2
          exact lnOr_of h2.1.2 q
      · have hlt : k < (sRt s x).length := by
          have := (List.getElem?_eq_some_iff.mp he).1
          simp at this
          omega
        rw [List.getElem?_append_left hlt] at he
        simp only [upd, vp_updL]
        rw [if_neg (by omega), if_neg (by omega), if_neg (by omega), if_neg (by omega)]
        exact (r4 x hx).2 k e he
    · rw [show va_up (sRt s) j (sRt s j ++ [(pfx one two len, i2o mn, i2o ot)]) x = sRt s x by simp [va_up, hxj]]
      refine ⟨by simp [upd, hxj]; exact (r4 x hx).1, fun k e he => ?_⟩
      have hlt : k < (sRt s x).length := (List.getElem?_eq_some_iff.mp he).1
      have := h16' x
      have := h16' j
      simp only [upd, vp_updL]
      rw [if_neg (by omega), if_neg (by omega), if_neg (by omega), if_neg (by omega)]
      exact (r4 x hx).2 k e he
  have h16 := h16' j
  refine CallS.of (Nat.le_of_ble_eq_true rfl) ?_
  refine wp_aload_n d_Mod_route_0 rfl 0 rfl ?_
  refine wp_iload_n d_Mod_route_1 rfl 1 rfl ?_
  refine wp_callV (r := 1) d_Mod_route_2 (link_S (av := [.int (nI j)]) (rest := [.ref o]) d_Mod_route_2 cal_Mod_isSwitch wM_Mod_123 rfl) cal_Mod_isSwitch (c_Mod_isSwitchT (by omega)) (Nat.le_of_ble_eq_true rfl) ⟨Nat.le_of_ble_eq_true rfl, Nat.le_of_ble_eq_true rfl⟩ ?_
  refine wp_if_eqB (tgt := 23) d_Mod_route_5 (by decide) (fun c => absurd c (by decide)) (fun _ => ?_)
  refine wp_iload d_Mod_route_8 4 rfl ?_
  refine wp_iconst (v := nI 1) d_Mod_route_10 (by decide) ?_
  refine wp_bipush (v := nI 8) d_Mod_route_11 (by decide) ?_
  refine wp_callV (r := 1) d_Mod_route_13 (link_S (av := [.int (nI len), .int (nI 1), .int (nI 8)]) (rest := [.ref o]) d_Mod_route_13 cal_Mod_in wM_Mod_115 rfl) cal_Mod_in (c_Mod_inT (by omega) (by omega) (by omega)) (Nat.le_of_ble_eq_true rfl) ⟨Nat.le_of_ble_eq_true rfl, Nat.le_of_ble_eq_true rfl⟩ ?_
  refine wp_if_eqB (tgt := 23) d_Mod_route_16 (by decide) (fun c => absurd c (by decide)) (fun _ => ?_)
  refine wp_iconst (v := nI 0) d_Mod_route_19 (by decide) ?_
  refine wp_goto (tgt := 24) d_Mod_route_20 (by decide) ?_
  refine wm_put (Fi' := va_up Fi 0 (nI 0)) d_Mod_route_24 0 (by decide) wF_Mod_111 rfl (by decide) rfl ?_
  refine wp_lconst (v := lN 0) d_Mod_route_27 (by decide) ?_
  refine wp_lstore (lv' := [(7, .long (lN 0)), (0, .ref o), (1, .int (nI j)), (2, .int one), (3, .int two), (4, .int (nI len)), (5, .int mn), (6, .int ot)]) d_Mod_route_28 (by decide) rfl ?_
  refine wp_iconst (v := nI 0) d_Mod_route_30 (by decide) ?_
  refine wp_istore (lv' := [(9, .int (nI 0)), (7, .long (lN 0)), (0, .ref o), (1, .int (nI j)), (2, .int one), (3, .int two), (4, .int (nI len)), (5, .int mn), (6, .int ot)]) d_Mod_route_31 (by decide) rfl ?_
  refine wp_lv [0, 1, 2, 3, 4, 5, 6, 7, 8] rfl ?_
  refine l_Mod_route1 (Fi := va_up Fi 0 (nI 0)) (by omega) rfl ⟨by rfl, by rfl⟩ (fun hbad => ?_) (fun hgood => ?_) 9 0 (by omega) (by omega) (fun i hi => absurd hi (by omega))
  · have hst := hstB (Or.inl hbad)
    refine wp_aload_n d_Mod_route_117 rfl 0 rfl ?_
    refine wm_get d_Mod_route_118 0 (by decide) wF_Mod_111 rfl ?_
    refine wp_toI (z := (nI 1)) (rfl) ?_
    refine wp_if_neN (tgt := 174) d_Mod_route_121 (by decide) (by omega) (fun _ => ?_) (fun c => absurd c (by decide))
    refine wp_iconst (v := nI 0) d_Mod_route_174 (by decide) ?_
    refine wp_istore (lv' := [(9, .int (nI 0)), (0, .ref o), (1, .int (nI j)), (4, .int (nI len)), (5, .int mn), (6, .int ot)]) d_Mod_route_175 (by decide) rfl ?_
    refine wp_aload_n d_Mod_route_177 rfl 1 rfl ?_
    refine wm_get d_Mod_route_178 0 (by decide) wF_Mod_111 rfl ?_
    refine wp_toI (z := (nI 1)) (rfl) ?_
    refine wp_if_neN (tgt := 241) d_Mod_route_181 (by decide) (by omega) (fun _ => ?_) (fun c => absurd c (by decide))
    refine wp_aload_n d_Mod_route_241 rfl 1 rfl ?_
    refine wm_get d_Mod_route_242 0 (by decide) wF_Mod_111 rfl ?_
    refine wp_toI (z := (nI 1)) (rfl) ?_
    refine wp_if_leN (tgt := 249) d_Mod_route_245 (by decide) (by omega) (fun c => absurd c (by decide)) (fun _ => ?_)
    exact wp_vret d_Mod_route_248 rfl ⟨rfl, by rw [hst]; exact ⟨_, _, _, rfl, hR, rfl⟩⟩
  · have hpf := (pfxOK_iff one two len).mpr hgood
    refine wp_aload_n d_Mod_route_117 rfl 1 rfl ?_
    refine wm_get d_Mod_route_118 0 (by decide) wF_Mod_111 rfl ?_
    refine wp_toI (z := (nI 0)) (rfl) ?_
    refine wp_if_neN (tgt := 174) d_Mod_route_121 (by decide) (by omega) (fun c => absurd c (by decide)) (fun _ => ?_)
    refine wp_iload d_Mod_route_124 4 rfl ?_
    refine wp_iconst (v := -1) d_Mod_route_126 (by decide) ?_
    refine wp_icmp_eq (tgt := 140) d_Mod_route_127 (by decide) (fun c127 => ?_) (fun c127 => ?_)
    · refine wp_iload d_Mod_route_140 5 rfl ?_
      refine wp_iconst (v := -1) d_Mod_route_142 (by decide) ?_
      refine wp_icmp_eq (tgt := 156) d_Mod_route_143 (by decide) (fun c143 => ?_) (fun c143 => ?_)
      · refine wp_iload d_Mod_route_156 4 rfl ?_
        refine wp_iload d_Mod_route_158 5 rfl ?_
        refine wp_icmp_ne (tgt := 174) d_Mod_route_160 (by decide) (fun c160 => ?_) (fun c160 => ?_)
        · refine wp_iconst (v := nI 0) d_Mod_route_174 (by decide) ?_
          refine wp_istore (lv' := [(9, .int (nI 0)), (7, .long (lN (pb8 one two 8))), (0, .ref o), (1, .int (nI j)), (4, .int (nI len)), (5, .int mn), (6, .int ot)]) d_Mod_route_175 (by decide) rfl ?_
          have hln := (show (lnOrNone s mn j && lnOrNone s ot j && !(decide (mn = ot ∧ mn ≠ -1))) = true from by first | (simp [lnOrNone, c127, c137, c143, c153, c160]; done) | (simp [lnOrNone, c127, c143, c153, c160]; done) | (simp [lnOrNone, c127, c137, c143, c160]; done) | (simp [lnOrNone, c127, c143, c160]; done) | (simp [lnOrNone, c127, c137, c143, c153, c166]; done) | (simp [lnOrNone, c127, c143, c153, c166]; done) | (simp [lnOrNone, c127, c137, c143, c166]; done) | (simp [lnOrNone, c127, c143, c166]; done))
          refine wp_lv [0, 1, 2, 3, 4, 5, 6] rfl ?_
          refine l_Mod_route2 (Fi := va_up Fi 0 (nI 0)) (R := sRt s) (p := pfx one two len) hI hR.rt hj hlen h16 (pfx_len one two len) (pfx_b (by omega) hgood) (by rw [pfx_len]; exact pb8_pfx (by omega) hgood) hRo rfl (fun hbad => ?_) (fun hno => ?_) ((sRt s j).length + 1) 0 (by omega) (by omega) (fun i e hi => absurd hi (by omega))
          · have hst := hstB (Or.inr (Or.inr hbad))
            refine wp_aload_n d_Mod_route_241 rfl 0 rfl ?_
            refine wm_get d_Mod_route_242 0 (by decide) wF_Mod_111 rfl ?_
            refine wp_toI (z := (nI 1)) (rfl) ?_
            refine wp_if_leN (tgt := 249) d_Mod_route_245 (by decide) (by omega) (fun c => absurd c (by decide)) (fun _ => ?_)
            exact wp_vret d_Mod_route_248 rfl ⟨rfl, by rw [hst]; exact ⟨_, _, _, rfl, hR, rfl⟩⟩
          · have hst := hstG hpf hln hno
            refine wp_aload_n d_Mod_route_241 rfl 1 rfl ?_
            refine wm_get d_Mod_route_242 0 (by decide) wF_Mod_111 rfl ?_
            refine wp_toI (z := (nI 0)) (rfl) ?_
            refine wp_if_leN (tgt := 249) d_Mod_route_245 (by decide) (by omega) (fun _ => ?_) (fun c => absurd c (by decide))
            refine wp_aload_n d_Mod_route_249 rfl 1 rfl ?_
            refine wm_get d_Mod_route_250 10 (by decide) wF_Mod_32 rfl ?_
            refine wp_iload_n d_Mod_route_253 rfl 2 rfl ?_
            refine wm_ild (j := 10) (x := (nI ((sRt s j).length))) d_Mod_route_254 hI (by decide) (by decide) (by show _ < 6; omega) (by decide) ((hR.rt j hj).1) ?_
            refine wp_bipush (v := nI 16) d_Mod_route_255 (by decide) ?_
            refine wp_neN (tgt := 266) d_Mod_route_257 (by decide) (by omega) (by omega) (fun c257 => ?_) (fun c257 => ?_)
            · refine wp_bipush (v := nI 16) d_Mod_route_266 (by decide) ?_
              refine wp_iload_n d_Mod_route_268 rfl 2 rfl ?_
              refine wp_imulN d_Mod_route_269 ?_
              refine wp_aload_n d_Mod_route_270 rfl 1 rfl ?_
              refine wm_get d_Mod_route_271 10 (by decide) wF_Mod_32 rfl ?_
              refine wp_iload_n d_Mod_route_274 rfl 2 rfl ?_
              refine wm_ild (j := 10) (x := (nI ((sRt s j).length))) d_Mod_route_275 hI (by decide) (by decide) (by show _ < 6; omega) (by decide) ((hR.rt j hj).1) ?_
              refine wp_iaddN d_Mod_route_276 ?_
              refine wp_istore (lv' := [(9, .int (nI ((16 * j) + ((sRt s j).length)))), (7, .long (lN (pb8 one two 8))), (0, .ref o), (1, .int (nI j)), (4, .int (nI len)), (5, .int mn), (6, .int ot)]) d_Mod_route_277 (by decide) rfl ?_
              refine wp_aload_n d_Mod_route_279 rfl 2 rfl ?_
              refine wm_get d_Mod_route_280 11 (by decide) wF_Mod_35 rfl ?_
              refine wp_iload d_Mod_route_283 0 rfl ?_
              refine wp_lload d_Mod_route_285 1 rfl ?_
              refine wm_lst (j := 11) d_Mod_route_287 hI (by decide) (by decide) (by show _ < 96; omega) (by decide) ?_
              refine wp_aload_n d_Mod_route_288 rfl 2 rfl ?_
              refine wm_get d_Mod_route_289 12 (by decide) wF_Mod_39 rfl ?_
              refine wp_iload d_Mod_route_292 0 rfl ?_
              refine wp_iload d_Mod_route_294 4 rfl ?_
              refine wm_ist (j := 12) d_Mod_route_296 hI (by decide) (by decide) (by show _ < 96; omega) (by decide) ?_
              refine wp_aload_n d_Mod_route_297 rfl 2 rfl ?_
              refine wm_get d_Mod_route_298 13 (by decide) wF_Mod_42 rfl ?_
              refine wp_iload d_Mod_route_301 0 rfl ?_
              refine wp_iload d_Mod_route_303 5 rfl ?_
              refine wm_ist (j := 13) d_Mod_route_305 hI (by decide) (by decide) (by show _ < 96; omega) (by decide) ?_
              refine wp_aload_n d_Mod_route_306 rfl 2 rfl ?_
              refine wm_get d_Mod_route_307 14 (by decide) wF_Mod_45 rfl ?_
              refine wp_iload d_Mod_route_310 0 rfl ?_
              refine wp_iload d_Mod_route_312 6 rfl ?_
              refine wm_ist (j := 14) d_Mod_route_314 hI (by decide) (by decide) (by show _ < 96; omega) (by decide) ?_
              refine wp_aload_n d_Mod_route_315 rfl 2 rfl ?_
              refine wm_get d_Mod_route_316 10 (by decide) wF_Mod_32 rfl ?_
              refine wp_iload_n d_Mod_route_319 rfl 3 rfl ?_
              refine wp_dup2 d_Mod_route_320 rfl rfl ?_
              refine wm_ild (j := 10) (x := (nI ((sRt s j).length))) d_Mod_route_321 hI (by decide) (by decide) (by show _ < 6; omega) (by decide) (by rw [u2_ne _ _ (by decide), u2_ne _ _ (by decide), u2_ne _ _ (by decide)]; exact (hR.rt j hj).1) ?_
              refine wp_iconst (v := nI 1) d_Mod_route_322 (by decide) ?_
              refine wp_iaddN d_Mod_route_323 ?_
              refine wm_ist (j := 10) d_Mod_route_324 hI (by decide) (by decide) (by show _ < 6; omega) (by decide) ?_
              exact wp_vret d_Mod_route_325 rfl ⟨rfl, by rw [hst, if_neg c257]; exact ⟨_, _, _, rfl, hNew hgood hln c257, rfl⟩⟩
            · refine wp_aload_n d_Mod_route_260 rfl 1 rfl ?_
              refine wp_iconst (v := nI 2) d_Mod_route_261 (by decide) ?_
              refine wm_put (Fi' := va_up (va_up Fi 0 (nI 0)) 0 (nI 2)) d_Mod_route_262 0 (by decide) wF_Mod_111 rfl (by decide) rfl ?_
              exact wp_vret d_Mod_route_265 rfl ⟨rfl, by rw [hst, if_pos c257]; exact ⟨_, _, _, rfl, hR, rfl⟩⟩
        · refine wp_iload d_Mod_route_163 4 rfl ?_
          refine wp_iconst (v := -1) d_Mod_route_165 (by decide) ?_
          refine wp_icmp_eq (tgt := 174) d_Mod_route_166 (by decide) (fun c166 => ?_) (fun c166 => ?_)
          · refine wp_iconst (v := nI 0) d_Mod_route_174 (by decide) ?_
            refine wp_istore (lv' := [(9, .int (nI 0)), (7, .long (lN (pb8 one two 8))), (0, .ref o), (1, .int (nI j)), (4, .int (nI len)), (5, .int mn), (6, .int ot)]) d_Mod_route_175 (by decide) rfl ?_
            have hln := (show (lnOrNone s mn j && lnOrNone s ot j && !(decide (mn = ot ∧ mn ≠ -1))) = true from by first | (simp [lnOrNone, c127, c137, c143, c153, c160]; done) | (simp [lnOrNone, c127, c143, c153, c160]; done) | (simp [lnOrNone, c127, c137, c143, c160]; done) | (simp [lnOrNone, c127, c143, c160]; done) | (simp [lnOrNone, c127, c137, c143, c153, c166]; done) | (simp [lnOrNone, c127, c143, c153, c166]; done) | (simp [lnOrNone, c127, c137, c143, c166]; done) | (simp [lnOrNone, c127, c143, c166]; done))
            refine wp_lv [0, 1, 2, 3, 4, 5, 6] rfl ?_
            refine l_Mod_route2 (Fi := va_up Fi 0 (nI 0)) (R := sRt s) (p := pfx one two len) hI hR.rt hj hlen h16 (pfx_len one two len) (pfx_b (by omega) hgood) (by rw [pfx_len]; exact pb8_pfx (by omega) hgood) hRo rfl (fun hbad => ?_) (fun hno => ?_) ((sRt s j).length + 1) 0 (by omega) (by omega) (fun i e hi => absurd hi (by omega))
            · have hst := hstB (Or.inr (Or.inr hbad))
              refine wp_aload_n d_Mod_route_241 rfl 0 rfl ?_
              refine wm_get d_Mod_route_242 0 (by decide) wF_Mod_111 rfl ?_
              refine wp_toI (z := (nI 1)) (rfl) ?_
              refine wp_if_leN (tgt := 249) d_Mod_route_245 (by decide) (by omega) (fun c => absurd c (by decide)) (fun _ => ?_)
              exact wp_vret d_Mod_route_248 rfl ⟨rfl, by rw [hst]; exact ⟨_, _, _, rfl, hR, rfl⟩⟩
            · have hst := hstG hpf hln hno
              refine wp_aload_n d_Mod_route_241 rfl 1 rfl ?_
              refine wm_get d_Mod_route_242 0 (by decide) wF_Mod_111 rfl ?_
              refine wp_toI (z := (nI 0)) (rfl) ?_
              refine wp_if_leN (tgt := 249) d_Mod_route_245 (by decide) (by omega) (fun _ => ?_) (fun c => absurd c (by decide))
              refine wp_aload_n d_Mod_route_249 rfl 1 rfl ?_
              refine wm_get d_Mod_route_250 10 (by decide) wF_Mod_32 rfl ?_
              refine wp_iload_n d_Mod_route_253 rfl 2 rfl ?_
              refine wm_ild (j := 10) (x := (nI ((sRt s j).length))) d_Mod_route_254 hI (by decide) (by decide) (by show _ < 6; omega) (by decide) ((hR.rt j hj).1) ?_
              refine wp_bipush (v := nI 16) d_Mod_route_255 (by decide) ?_
              refine wp_neN (tgt := 266) d_Mod_route_257 (by decide) (by omega) (by omega) (fun c257 => ?_) (fun c257 => ?_)
              · refine wp_bipush (v := nI 16) d_Mod_route_266 (by decide) ?_
                refine wp_iload_n d_Mod_route_268 rfl 2 rfl ?_
                refine wp_imulN d_Mod_route_269 ?_
                refine wp_aload_n d_Mod_route_270 rfl 1 rfl ?_
                refine wm_get d_Mod_route_271 10 (by decide) wF_Mod_32 rfl ?_
                refine wp_iload_n d_Mod_route_274 rfl 2 rfl ?_
                refine wm_ild (j := 10) (x := (nI ((sRt s j).length))) d_Mod_route_275 hI (by decide) (by decide) (by show _ < 6; omega) (by decide) ((hR.rt j hj).1) ?_
                refine wp_iaddN d_Mod_route_276 ?_
                refine wp_istore (lv' := [(9, .int (nI ((16 * j) + ((sRt s j).length)))), (7, .long (lN (pb8 one two 8))), (0, .ref o), (1, .int (nI j)), (4, .int (nI len)), (5, .int mn), (6, .int ot)]) d_Mod_route_277 (by decide) rfl ?_
                refine wp_aload_n d_Mod_route_279 rfl 2 rfl ?_
                refine wm_get d_Mod_route_280 11 (by decide) wF_Mod_35 rfl ?_
                refine wp_iload d_Mod_route_283 0 rfl ?_
                refine wp_lload d_Mod_route_285 1 rfl ?_
                refine wm_lst (j := 11) d_Mod_route_287 hI (by decide) (by decide) (by show _ < 96; omega) (by decide) ?_
                refine wp_aload_n d_Mod_route_288 rfl 2 rfl ?_
                refine wm_get d_Mod_route_289 12 (by decide) wF_Mod_39 rfl ?_
                refine wp_iload d_Mod_route_292 0 rfl ?_
                refine wp_iload d_Mod_route_294 4 rfl ?_
                refine wm_ist (j := 12) d_Mod_route_296 hI (by decide) (by decide) (by show _ < 96; omega) (by decide) ?_
                refine wp_aload_n d_Mod_route_297 rfl 2 rfl ?_
                refine wm_get d_Mod_route_298 13 (by decide) wF_Mod_42 rfl ?_
                refine wp_iload d_Mod_route_301 0 rfl ?_
                refine wp_iload d_Mod_route_303 5 rfl ?_
                refine wm_ist (j := 13) d_Mod_route_305 hI (by decide) (by decide) (by show _ < 96; omega) (by decide) ?_
                refine wp_aload_n d_Mod_route_306 rfl 2 rfl ?_
                refine wm_get d_Mod_route_307 14 (by decide) wF_Mod_45 rfl ?_
                refine wp_iload d_Mod_route_310 0 rfl ?_
                refine wp_iload d_Mod_route_312 6 rfl ?_
                refine wm_ist (j := 14) d_Mod_route_314 hI (by decide) (by decide) (by show _ < 96; omega) (by decide) ?_
                refine wp_aload_n d_Mod_route_315 rfl 2 rfl ?_
                refine wm_get d_Mod_route_316 10 (by decide) wF_Mod_32 rfl ?_
                refine wp_iload_n d_Mod_route_319 rfl 3 rfl ?_
                refine wp_dup2 d_Mod_route_320 rfl rfl ?_
                refine wm_ild (j := 10) (x := (nI ((sRt s j).length))) d_Mod_route_321 hI (by decide) (by decide) (by show _ < 6; omega) (by decide) (by rw [u2_ne _ _ (by decide), u2_ne _ _ (by decide), u2_ne _ _ (by decide)]; exact (hR.rt j hj).1) ?_
                refine wp_iconst (v := nI 1) d_Mod_route_322 (by decide) ?_
                refine wp_iaddN d_Mod_route_323 ?_
                refine wm_ist (j := 10) d_Mod_route_324 hI (by decide) (by decide) (by show _ < 6; omega) (by decide) ?_
                exact wp_vret d_Mod_route_325 rfl ⟨rfl, by rw [hst, if_neg c257]; exact ⟨_, _, _, rfl, hNew hgood hln c257, rfl⟩⟩
              · refine wp_aload_n d_Mod_route_260 rfl 1 rfl ?_
                refine wp_iconst (v := nI 2) d_Mod_route_261 (by decide) ?_
                refine wm_put (Fi' := va_up (va_up Fi 0 (nI 0)) 0 (nI 2)) d_Mod_route_262 0 (by decide) wF_Mod_111 rfl (by decide) rfl ?_
                exact wp_vret d_Mod_route_265 rfl ⟨rfl, by rw [hst, if_pos c257]; exact ⟨_, _, _, rfl, hR, rfl⟩⟩
          · have hst := hstB (Or.inr (Or.inl (by first | (simp [lnOrNone, c127, c137]; done) | (simp [lnOrNone, c143, c153]; done) | (simp [c160, c166]; done) | (simp [← c160, c166]; done))))
            refine wp_aload_n d_Mod_route_169 rfl 1 rfl ?_
            refine wp_iconst (v := nI 1) d_Mod_route_170 (by decide) ?_
            refine wm_put (Fi' := va_up (va_up Fi 0 (nI 0)) 0 (nI 1)) d_Mod_route_171 0 (by decide) wF_Mod_111 rfl (by decide) rfl ?_
            refine wp_iconst (v := nI 0) d_Mod_route_174 (by decide) ?_
            refine wp_istore (lv' := [(9, .int (nI 0)), (7, .long (lN (pb8 one two 8))), (0, .ref o), (1, .int (nI j)), (4, .int (nI len)), (5, .int mn), (6, .int ot)]) d_Mod_route_175 (by decide) rfl ?_
            refine wp_aload_n d_Mod_route_177 rfl 2 rfl ?_
            refine wm_get d_Mod_route_178 0 (by decide) wF_Mod_111 rfl ?_
            refine wp_toI (z := (nI 1)) (rfl) ?_
            refine wp_if_neN (tgt := 241) d_Mod_route_181 (by decide) (by omega) (fun _ => ?_) (fun c => absurd c (by decide))
            refine wp_aload_n d_Mod_route_241 rfl 2 rfl ?_
            refine wm_get d_Mod_route_242 0 (by decide) wF_Mod_111 rfl ?_
            refine wp_toI (z := (nI 1)) (rfl) ?_
            refine wp_if_leN (tgt := 249) d_Mod_route_245 (by decide) (by omega) (fun c => absurd c (by decide)) (fun _ => ?_)
            exact wp_vret d_Mod_route_248 rfl ⟨rfl, by rw [hst]; exact ⟨_, _, _, rfl, hR, rfl⟩⟩
      · refine wp_aload_n d_Mod_route_146 rfl 1 rfl ?_
        refine wp_iload d_Mod_route_147 5 rfl ?_
        refine wp_iload_n d_Mod_route_149 rfl 2 rfl ?_
        refine wp_callV (r := 0) d_Mod_route_150 (link_V (as := [.int ot, .int (nI j)]) (rest := []) (r := (R_Mod, T_Mod, 43)) d_Mod_route_150 cal_Mod_isAt wM_Mod_126 rfl hM_o rfl) cal_Mod_isAt (c_Mod_isAtG hI hR.ln hLb hj ot) (Nat.le_of_ble_eq_true rfl) ⟨Nat.le_of_ble_eq_true rfl, Nat.le_of_ble_eq_true rfl⟩ ?_
        refine wp_if_eqB (tgt := 169) d_Mod_route_153 (by decide) (fun c153 => ?_) (fun c153 => ?_)
        · have hst := hstB (Or.inr (Or.inl (by first | (simp [lnOrNone, c127, c137]; done) | (simp [lnOrNone, c143, c153]; done) | (simp [c160, c166]; done) | (simp [← c160, c166]; done))))
          refine wp_aload_n d_Mod_route_169 rfl 1 rfl ?_
          refine wp_iconst (v := nI 1) d_Mod_route_170 (by decide) ?_
          refine wm_put (Fi' := va_up (va_up Fi 0 (nI 0)) 0 (nI 1)) d_Mod_route_171 0 (by decide) wF_Mod_111 rfl (by decide) rfl ?_
          refine wp_iconst (v := nI 0) d_Mod_route_174 (by decide) ?_
          refine wp_istore (lv' := [(9, .int (nI 0)), (7, .long (lN (pb8 one two 8))), (0, .ref o), (1, .int (nI j)), (4, .int (nI len)), (5, .int mn), (6, .int ot)]) d_Mod_route_175 (by decide) rfl ?_
          refine wp_aload_n d_Mod_route_177 rfl 2 rfl ?_
          refine wm_get d_Mod_route_178 0 (by decide) wF_Mod_111 rfl ?_
          refine wp_toI (z := (nI 1)) (rfl) ?_
          refine wp_if_neN (tgt := 241) d_Mod_route_181 (by decide) (by omega) (fun _ => ?_) (fun c => absurd c (by decide))
          refine wp_aload_n d_Mod_route_241 rfl 2 rfl ?_
          refine wm_get d_Mod_route_242 0 (by decide) wF_Mod_111 rfl ?_
          refine wp_toI (z := (nI 1)) (rfl) ?_
          refine wp_if_leN (tgt := 249) d_Mod_route_245 (by decide) (by omega) (fun c => absurd c (by decide)) (fun _ => ?_)
          exact wp_vret d_Mod_route_248 rfl ⟨rfl, by rw [hst]; exact ⟨_, _, _, rfl, hR, rfl⟩⟩
        · refine wp_iload d_Mod_route_156 4 rfl ?_
          refine wp_iload d_Mod_route_158 5 rfl ?_
          refine wp_icmp_ne (tgt := 174) d_Mod_route_160 (by decide) (fun c160 => ?_) (fun c160 => ?_)
          · refine wp_iconst (v := nI 0) d_Mod_route_174 (by decide) ?_
            refine wp_istore (lv' := [(9, .int (nI 0)), (7, .long (lN (pb8 one two 8))), (0, .ref o), (1, .int (nI j)), (4, .int (nI len)), (5, .int mn), (6, .int ot)]) d_Mod_route_175 (by decide) rfl ?_
            have hln := (show (lnOrNone s mn j && lnOrNone s ot j && !(decide (mn = ot ∧ mn ≠ -1))) = true from by first | (simp [lnOrNone, c127, c137, c143, c153, c160]; done) | (simp [lnOrNone, c127, c143, c153, c160]; done) | (simp [lnOrNone, c127, c137, c143, c160]; done) | (simp [lnOrNone, c127, c143, c160]; done) | (simp [lnOrNone, c127, c137, c143, c153, c166]; done) | (simp [lnOrNone, c127, c143, c153, c166]; done) | (simp [lnOrNone, c127, c137, c143, c166]; done) | (simp [lnOrNone, c127, c143, c166]; done))
            refine wp_lv [0, 1, 2, 3, 4, 5, 6] rfl ?_
            refine l_Mod_route2 (Fi := va_up Fi 0 (nI 0)) (R := sRt s) (p := pfx one two len) hI hR.rt hj hlen h16 (pfx_len one two len) (pfx_b (by omega) hgood) (by rw [pfx_len]; exact pb8_pfx (by omega) hgood) hRo rfl (fun hbad => ?_) (fun hno => ?_) ((sRt s j).length + 1) 0 (by omega) (by omega) (fun i e hi => absurd hi (by omega))
            · have hst := hstB (Or.inr (Or.inr hbad))
              refine wp_aload_n d_Mod_route_241 rfl 0 rfl ?_
              refine wm_get d_Mod_route_242 0 (by decide) wF_Mod_111 rfl ?_
              refine wp_toI (z := (nI 1)) (rfl) ?_
              refine wp_if_leN (tgt := 249) d_Mod_route_245 (by decide) (by omega) (fun c => absurd c (by decide)) (fun _ => ?_)
              exact wp_vret d_Mod_route_248 rfl ⟨rfl, by rw [hst]; exact ⟨_, _, _, rfl, hR, rfl⟩⟩
            · have hst := hstG hpf hln hno
              refine wp_aload_n d_Mod_route_241 rfl 1 rfl ?_
              refine wm_get d_Mod_route_242 0 (by decide) wF_Mod_111 rfl ?_
              refine wp_toI (z := (nI 0)) (rfl) ?_
              refine wp_if_leN (tgt := 249) d_Mod_route_245 (by decide) (by omega) (fun _ => ?_) (fun c => absurd c (by decide))
              refine wp_aload_n d_Mod_route_249 rfl 1 rfl ?_
              refine wm_get d_Mod_route_250 10 (by decide) wF_Mod_32 rfl ?_
              refine wp_iload_n d_Mod_route_253 rfl 2 rfl ?_
              refine wm_ild (j := 10) (x := (nI ((sRt s j).length))) d_Mod_route_254 hI (by decide) (by decide) (by show _ < 6; omega) (by decide) ((hR.rt j hj).1) ?_
              refine wp_bipush (v := nI 16) d_Mod_route_255 (by decide) ?_
              refine wp_neN (tgt := 266) d_Mod_route_257 (by decide) (by omega) (by omega) (fun c257 => ?_) (fun c257 => ?_)
              · refine wp_bipush (v := nI 16) d_Mod_route_266 (by decide) ?_
                refine wp_iload_n d_Mod_route_268 rfl 2 rfl ?_
                refine wp_imulN d_Mod_route_269 ?_
                refine wp_aload_n d_Mod_route_270 rfl 1 rfl ?_
                refine wm_get d_Mod_route_271 10 (by decide) wF_Mod_32 rfl ?_
                refine wp_iload_n d_Mod_route_274 rfl 2 rfl ?_
                refine wm_ild (j := 10) (x := (nI ((sRt s j).length))) d_Mod_route_275 hI (by decide) (by decide) (by show _ < 6; omega) (by decide) ((hR.rt j hj).1) ?_
                refine wp_iaddN d_Mod_route_276 ?_
                refine wp_istore (lv' := [(9, .int (nI ((16 * j) + ((sRt s j).length)))), (7, .long (lN (pb8 one two 8))), (0, .ref o), (1, .int (nI j)), (4, .int (nI len)), (5, .int mn), (6, .int ot)]) d_Mod_route_277 (by decide) rfl ?_
                refine wp_aload_n d_Mod_route_279 rfl 2 rfl ?_
                refine wm_get d_Mod_route_280 11 (by decide) wF_Mod_35 rfl ?_
                refine wp_iload d_Mod_route_283 0 rfl ?_
                refine wp_lload d_Mod_route_285 1 rfl ?_
                refine wm_lst (j := 11) d_Mod_route_287 hI (by decide) (by decide) (by show _ < 96; omega) (by decide) ?_
                refine wp_aload_n d_Mod_route_288 rfl 2 rfl ?_
                refine wm_get d_Mod_route_289 12 (by decide) wF_Mod_39 rfl ?_
                refine wp_iload d_Mod_route_292 0 rfl ?_
                refine wp_iload d_Mod_route_294 4 rfl ?_
                refine wm_ist (j := 12) d_Mod_route_296 hI (by decide) (by decide) (by show _ < 96; omega) (by decide) ?_
                refine wp_aload_n d_Mod_route_297 rfl 2 rfl ?_
                refine wm_get d_Mod_route_298 13 (by decide) wF_Mod_42 rfl ?_
                refine wp_iload d_Mod_route_301 0 rfl ?_
                refine wp_iload d_Mod_route_303 5 rfl ?_
                refine wm_ist (j := 13) d_Mod_route_305 hI (by decide) (by decide) (by show _ < 96; omega) (by decide) ?_
                refine wp_aload_n d_Mod_route_306 rfl 2 rfl ?_
                refine wm_get d_Mod_route_307 14 (by decide) wF_Mod_45 rfl ?_
                refine wp_iload d_Mod_route_310 0 rfl ?_
                refine wp_iload d_Mod_route_312 6 rfl ?_
                refine wm_ist (j := 14) d_Mod_route_314 hI (by decide) (by decide) (by show _ < 96; omega) (by decide) ?_
                refine wp_aload_n d_Mod_route_315 rfl 2 rfl ?_
                refine wm_get d_Mod_route_316 10 (by decide) wF_Mod_32 rfl ?_
                refine wp_iload_n d_Mod_route_319 rfl 3 rfl ?_
                refine wp_dup2 d_Mod_route_320 rfl rfl ?_
                refine wm_ild (j := 10) (x := (nI ((sRt s j).length))) d_Mod_route_321 hI (by decide) (by decide) (by show _ < 6; omega) (by decide) (by rw [u2_ne _ _ (by decide), u2_ne _ _ (by decide), u2_ne _ _ (by decide)]; exact (hR.rt j hj).1) ?_
                refine wp_iconst (v := nI 1) d_Mod_route_322 (by decide) ?_
                refine wp_iaddN d_Mod_route_323 ?_
                refine wm_ist (j := 10) d_Mod_route_324 hI (by decide) (by decide) (by show _ < 6; omega) (by decide) ?_
                exact wp_vret d_Mod_route_325 rfl ⟨rfl, by rw [hst, if_neg c257]; exact ⟨_, _, _, rfl, hNew hgood hln c257, rfl⟩⟩
              · refine wp_aload_n d_Mod_route_260 rfl 1 rfl ?_
                refine wp_iconst (v := nI 2) d_Mod_route_261 (by decide) ?_
                refine wm_put (Fi' := va_up (va_up Fi 0 (nI 0)) 0 (nI 2)) d_Mod_route_262 0 (by decide) wF_Mod_111 rfl (by decide) rfl ?_
                exact wp_vret d_Mod_route_265 rfl ⟨rfl, by rw [hst, if_pos c257]; exact ⟨_, _, _, rfl, hR, rfl⟩⟩
          · refine wp_iload d_Mod_route_163 4 rfl ?_
            refine wp_iconst (v := -1) d_Mod_route_165 (by decide) ?_
            refine wp_icmp_eq (tgt := 174) d_Mod_route_166 (by decide) (fun c166 => ?_) (fun c166 => ?_)
            · refine wp_iconst (v := nI 0) d_Mod_route_174 (by decide) ?_
              refine wp_istore (lv' := [(9, .int (nI 0)), (7, .long (lN (pb8 one two 8))), (0, .ref o), (1, .int (nI j)), (4, .int (nI len)), (5, .int mn), (6, .int ot)]) d_Mod_route_175 (by decide) rfl ?_
              have hln := (show (lnOrNone s mn j && lnOrNone s ot j && !(decide (mn = ot ∧ mn ≠ -1))) = true from by first | (simp [lnOrNone, c127, c137, c143, c153, c160]; done) | (simp [lnOrNone, c127, c143, c153, c160]; done) | (simp [lnOrNone, c127, c137, c143, c160]; done) | (simp [lnOrNone, c127, c143, c160]; done) | (simp [lnOrNone, c127, c137, c143, c153, c166]; done) | (simp [lnOrNone, c127, c143, c153, c166]; done) | (simp [lnOrNone, c127, c137, c143, c166]; done) | (simp [lnOrNone, c127, c143, c166]; done))
              refine wp_lv [0, 1, 2, 3, 4, 5, 6] rfl ?_
              refine l_Mod_route2 (Fi := va_up Fi 0 (nI 0)) (R := sRt s) (p := pfx one two len) hI hR.rt hj hlen h16 (pfx_len one two len) (pfx_b (by omega) hgood) (by rw [pfx_len]; exact pb8_pfx (by omega) hgood) hRo rfl (fun hbad => ?_) (fun hno => ?_) ((sRt s j).length + 1) 0 (by omega) (by omega) (fun i e hi => absurd hi (by omega))
              · have hst := hstB (Or.inr (Or.inr hbad))
                refine wp_aload_n d_Mod_route_241 rfl 0 rfl ?_
                refine wm_get d_Mod_route_242 0 (by decide) wF_Mod_111 rfl ?_
                refine wp_toI (z := (nI 1)) (rfl) ?_
                refine wp_if_leN (tgt := 249) d_Mod_route_245 (by decide) (by omega) (fun c => absurd c (by decide)) (fun _ => ?_)
                exact wp_vret d_Mod_route_248 rfl ⟨rfl, by rw [hst]; exact ⟨_, _, _, rfl, hR, rfl⟩⟩
              · have hst := hstG hpf hln hno
                refine wp_aload_n d_Mod_route_241 rfl 1 rfl ?_
                refine wm_get d_Mod_route_242 0 (by decide) wF_Mod_111 rfl ?_
                refine wp_toI (z := (nI 0)) (rfl) ?_
                refine wp_if_leN (tgt := 249) d_Mod_route_245 (by decide) (by omega) (fun _ => ?_) (fun c => absurd c (by decide))
                refine wp_aload_n d_Mod_route_249 rfl 1 rfl ?_
                refine wm_get d_Mod_route_250 10 (by decide) wF_Mod_32 rfl ?_
                refine wp_iload_n d_Mod_route_253 rfl 2 rfl ?_
                refine wm_ild (j := 10) (x := (nI ((sRt s j).length))) d_Mod_route_254 hI (by decide) (by decide) (by show _ < 6; omega) (by decide) ((hR.rt j hj).1) ?_
                refine wp_bipush (v := nI 16) d_Mod_route_255 (by decide) ?_
                refine wp_neN (tgt := 266) d_Mod_route_257 (by decide) (by omega) (by omega) (fun c257 => ?_) (fun c257 => ?_)
                · refine wp_bipush (v := nI 16) d_Mod_route_266 (by decide) ?_
                  refine wp_iload_n d_Mod_route_268 rfl 2 rfl ?_
                  refine wp_imulN d_Mod_route_269 ?_
                  refine wp_aload_n d_Mod_route_270 rfl 1 rfl ?_
                  refine wm_get d_Mod_route_271 10 (by decide) wF_Mod_32 rfl ?_
                  refine wp_iload_n d_Mod_route_274 rfl 2 rfl ?_
                  refine wm_ild (j := 10) (x := (nI ((sRt s j).length))) d_Mod_route_275 hI (by decide) (by decide) (by show _ < 6; omega) (by decide) ((hR.rt j hj).1) ?_
                  refine wp_iaddN d_Mod_route_276 ?_
                  refine wp_istore (lv' := [(9, .int (nI ((16 * j) + ((sRt s j).length)))), (7, .long (lN (pb8 one two 8))), (0, .ref o), (1, .int (nI j)), (4, .int (nI len)), (5, .int mn), (6, .int ot)]) d_Mod_route_277 (by decide) rfl ?_
                  refine wp_aload_n d_Mod_route_279 rfl 2 rfl ?_
                  refine wm_get d_Mod_route_280 11 (by decide) wF_Mod_35 rfl ?_
                  refine wp_iload d_Mod_route_283 0 rfl ?_
                  refine wp_lload d_Mod_route_285 1 rfl ?_
                  refine wm_lst (j := 11) d_Mod_route_287 hI (by decide) (by decide) (by show _ < 96; omega) (by decide) ?_
                  refine wp_aload_n d_Mod_route_288 rfl 2 rfl ?_
                  refine wm_get d_Mod_route_289 12 (by decide) wF_Mod_39 rfl ?_
                  refine wp_iload d_Mod_route_292 0 rfl ?_
                  refine wp_iload d_Mod_route_294 4 rfl ?_
                  refine wm_ist (j := 12) d_Mod_route_296 hI (by decide) (by decide) (by show _ < 96; omega) (by decide) ?_
                  refine wp_aload_n d_Mod_route_297 rfl 2 rfl ?_
                  refine wm_get d_Mod_route_298 13 (by decide) wF_Mod_42 rfl ?_
                  refine wp_iload d_Mod_route_301 0 rfl ?_
                  refine wp_iload d_Mod_route_303 5 rfl ?_
                  refine wm_ist (j := 13) d_Mod_route_305 hI (by decide) (by decide) (by show _ < 96; omega) (by decide) ?_
                  refine wp_aload_n d_Mod_route_306 rfl 2 rfl ?_
                  refine wm_get d_Mod_route_307 14 (by decide) wF_Mod_45 rfl ?_
                  refine wp_iload d_Mod_route_310 0 rfl ?_
                  refine wp_iload d_Mod_route_312 6 rfl ?_
                  refine wm_ist (j := 14) d_Mod_route_314 hI (by decide) (by decide) (by show _ < 96; omega) (by decide) ?_
                  refine wp_aload_n d_Mod_route_315 rfl 2 rfl ?_
                  refine wm_get d_Mod_route_316 10 (by decide) wF_Mod_32 rfl ?_
                  refine wp_iload_n d_Mod_route_319 rfl 3 rfl ?_
                  refine wp_dup2 d_Mod_route_320 rfl rfl ?_
                  refine wm_ild (j := 10) (x := (nI ((sRt s j).length))) d_Mod_route_321 hI (by decide) (by decide) (by show _ < 6; omega) (by decide) (by rw [u2_ne _ _ (by decide), u2_ne _ _ (by decide), u2_ne _ _ (by decide)]; exact (hR.rt j hj).1) ?_
                  refine wp_iconst (v := nI 1) d_Mod_route_322 (by decide) ?_
                  refine wp_iaddN d_Mod_route_323 ?_
                  refine wm_ist (j := 10) d_Mod_route_324 hI (by decide) (by decide) (by show _ < 6; omega) (by decide) ?_
                  exact wp_vret d_Mod_route_325 rfl ⟨rfl, by rw [hst, if_neg c257]; exact ⟨_, _, _, rfl, hNew hgood hln c257, rfl⟩⟩
                · refine wp_aload_n d_Mod_route_260 rfl 1 rfl ?_
                  refine wp_iconst (v := nI 2) d_Mod_route_261 (by decide) ?_
                  refine wm_put (Fi' := va_up (va_up Fi 0 (nI 0)) 0 (nI 2)) d_Mod_route_262 0 (by decide) wF_Mod_111 rfl (by decide) rfl ?_
                  exact wp_vret d_Mod_route_265 rfl ⟨rfl, by rw [hst, if_pos c257]; exact ⟨_, _, _, rfl, hR, rfl⟩⟩
            · have hst := hstB (Or.inr (Or.inl (by first | (simp [lnOrNone, c127, c137]; done) | (simp [lnOrNone, c143, c153]; done) | (simp [c160, c166]; done) | (simp [← c160, c166]; done))))
              refine wp_aload_n d_Mod_route_169 rfl 1 rfl ?_
              refine wp_iconst (v := nI 1) d_Mod_route_170 (by decide) ?_
              refine wm_put (Fi' := va_up (va_up Fi 0 (nI 0)) 0 (nI 1)) d_Mod_route_171 0 (by decide) wF_Mod_111 rfl (by decide) rfl ?_
              refine wp_iconst (v := nI 0) d_Mod_route_174 (by decide) ?_
              refine wp_istore (lv' := [(9, .int (nI 0)), (7, .long (lN (pb8 one two 8))), (0, .ref o), (1, .int (nI j)), (4, .int (nI len)), (5, .int mn), (6, .int ot)]) d_Mod_route_175 (by decide) rfl ?_
              refine wp_aload_n d_Mod_route_177 rfl 2 rfl ?_
              refine wm_get d_Mod_route_178 0 (by decide) wF_Mod_111 rfl ?_
              refine wp_toI (z := (nI 1)) (rfl) ?_
              refine wp_if_neN (tgt := 241) d_Mod_route_181 (by decide) (by omega) (fun _ => ?_) (fun c => absurd c (by decide))
              refine wp_aload_n d_Mod_route_241 rfl 2 rfl ?_
              refine wm_get d_Mod_route_242 0 (by decide) wF_Mod_111 rfl ?_
              refine wp_toI (z := (nI 1)) (rfl) ?_
              refine wp_if_leN (tgt := 249) d_Mod_route_245 (by decide) (by omega) (fun c => absurd c (by decide)) (fun _ => ?_)
              exact wp_vret d_Mod_route_248 rfl ⟨rfl, by rw [hst]; exact ⟨_, _, _, rfl, hR, rfl⟩⟩
    · refine wp_aload_n d_Mod_route_130 rfl 1 rfl ?_
      refine wp_iload d_Mod_route_131 4 rfl ?_
      refine wp_iload_n d_Mod_route_133 rfl 2 rfl ?_
      refine wp_callV (r := 0) d_Mod_route_134 (link_V (as := [.int mn, .int (nI j)]) (rest := []) (r := (R_Mod, T_Mod, 43)) d_Mod_route_134 cal_Mod_isAt wM_Mod_126 rfl hM_o rfl) cal_Mod_isAt (c_Mod_isAtG hI hR.ln hLb hj mn) (Nat.le_of_ble_eq_true rfl) ⟨Nat.le_of_ble_eq_true rfl, Nat.le_of_ble_eq_true rfl⟩ ?_
      refine wp_if_eqB (tgt := 169) d_Mod_route_137 (by decide) (fun c137 => ?_) (fun c137 => ?_)
      · have hst := hstB (Or.inr (Or.inl (by first | (simp [lnOrNone, c127, c137]; done) | (simp [lnOrNone, c143, c153]; done) | (simp [c160, c166]; done) | (simp [← c160, c166]; done))))
        refine wp_aload_n d_Mod_route_169 rfl 1 rfl ?_
        refine wp_iconst (v := nI 1) d_Mod_route_170 (by decide) ?_
        refine wm_put (Fi' := va_up (va_up Fi 0 (nI 0)) 0 (nI 1)) d_Mod_route_171 0 (by decide) wF_Mod_111 rfl (by decide) rfl ?_
        refine wp_iconst (v := nI 0) d_Mod_route_174 (by decide) ?_
        refine wp_istore (lv' := [(9, .int (nI 0)), (7, .long (lN (pb8 one two 8))), (0, .ref o), (1, .int (nI j)), (4, .int (nI len)), (5, .int mn), (6, .int ot)]) d_Mod_route_175 (by decide) rfl ?_
        refine wp_aload_n d_Mod_route_177 rfl 2 rfl ?_
        refine wm_get d_Mod_route_178 0 (by decide) wF_Mod_111 rfl ?_
        refine wp_toI (z := (nI 1)) (rfl) ?_
        refine wp_if_neN (tgt := 241) d_Mod_route_181 (by decide) (by omega) (fun _ => ?_) (fun c => absurd c (by decide))
        refine wp_aload_n d_Mod_route_241 rfl 2 rfl ?_
        refine wm_get d_Mod_route_242 0 (by decide) wF_Mod_111 rfl ?_
        refine wp_toI (z := (nI 1)) (rfl) ?_
        refine wp_if_leN (tgt := 249) d_Mod_route_245 (by decide) (by omega) (fun c => absurd c (by decide)) (fun _ => ?_)
        exact wp_vret d_Mod_route_248 rfl ⟨rfl, by rw [hst]; exact ⟨_, _, _, rfl, hR, rfl⟩⟩
      · refine wp_iload d_Mod_route_140 5 rfl ?_
        refine wp_iconst (v := -1) d_Mod_route_142 (by decide) ?_
        refine wp_icmp_eq (tgt := 156) d_Mod_route_143 (by decide) (fun c143 => ?_) (fun c143 => ?_)
        · refine wp_iload d_Mod_route_156 4 rfl ?_
          refine wp_iload d_Mod_route_158 5 rfl ?_
          refine wp_icmp_ne (tgt := 174) d_Mod_route_160 (by decide) (fun c160 => ?_) (fun c160 => ?_)
          · refine wp_iconst (v := nI 0) d_Mod_route_174 (by decide) ?_
            refine wp_istore (lv' := [(9, .int (nI 0)), (7, .long (lN (pb8 one two 8))), (0, .ref o), (1, .int (nI j)), (4, .int (nI len)), (5, .int mn), (6, .int ot)]) d_Mod_route_175 (by decide) rfl ?_
            have hln := (show (lnOrNone s mn j && lnOrNone s ot j && !(decide (mn = ot ∧ mn ≠ -1))) = true from by first | (simp [lnOrNone, c127, c137, c143, c153, c160]; done) | (simp [lnOrNone, c127, c143, c153, c160]; done) | (simp [lnOrNone, c127, c137, c143, c160]; done) | (simp [lnOrNone, c127, c143, c160]; done) | (simp [lnOrNone, c127, c137, c143, c153, c166]; done) | (simp [lnOrNone, c127, c143, c153, c166]; done) | (simp [lnOrNone, c127, c137, c143, c166]; done) | (simp [lnOrNone, c127, c143, c166]; done))
            refine wp_lv [0, 1, 2, 3, 4, 5, 6] rfl ?_
            refine l_Mod_route2 (Fi := va_up Fi 0 (nI 0)) (R := sRt s) (p := pfx one two len) hI hR.rt hj hlen h16 (pfx_len one two len) (pfx_b (by omega) hgood) (by rw [pfx_len]; exact pb8_pfx (by omega) hgood) hRo rfl (fun hbad => ?_) (fun hno => ?_) ((sRt s j).length + 1) 0 (by omega) (by omega) (fun i e hi => absurd hi (by omega))
            · have hst := hstB (Or.inr (Or.inr hbad))
              refine wp_aload_n d_Mod_route_241 rfl 0 rfl ?_
              refine wm_get d_Mod_route_242 0 (by decide) wF_Mod_111 rfl ?_
              refine wp_toI (z := (nI 1)) (rfl) ?_
              refine wp_if_leN (tgt := 249) d_Mod_route_245 (by decide) (by omega) (fun c => absurd c (by decide)) (fun _ => ?_)
              exact wp_vret d_Mod_route_248 rfl ⟨rfl, by rw [hst]; exact ⟨_, _, _, rfl, hR, rfl⟩⟩
            · have hst := hstG hpf hln hno
              refine wp_aload_n d_Mod_route_241 rfl 1 rfl ?_
              refine wm_get d_Mod_route_242 0 (by decide) wF_Mod_111 rfl ?_
              refine wp_toI (z := (nI 0)) (rfl) ?_
              refine wp_if_leN (tgt := 249) d_Mod_route_245 (by decide) (by omega) (fun _ => ?_) (fun c => absurd c (by decide))
              refine wp_aload_n d_Mod_route_249 rfl 1 rfl ?_
              refine wm_get d_Mod_route_250 10 (by decide) wF_Mod_32 rfl ?_
              refine wp_iload_n d_Mod_route_253 rfl 2 rfl ?_
              refine wm_ild (j := 10) (x := (nI ((sRt s j).length))) d_Mod_route_254 hI (by decide) (by decide) (by show _ < 6; omega) (by decide) ((hR.rt j hj).1) ?_
              refine wp_bipush (v := nI 16) d_Mod_route_255 (by decide) ?_
              refine wp_neN (tgt := 266) d_Mod_route_257 (by decide) (by omega) (by omega) (fun c257 => ?_) (fun c257 => ?_)
              · refine wp_bipush (v := nI 16) d_Mod_route_266 (by decide) ?_
                refine wp_iload_n d_Mod_route_268 rfl 2 rfl ?_
                refine wp_imulN d_Mod_route_269 ?_
                refine wp_aload_n d_Mod_route_270 rfl 1 rfl ?_
                refine wm_get d_Mod_route_271 10 (by decide) wF_Mod_32 rfl ?_
                refine wp_iload_n d_Mod_route_274 rfl 2 rfl ?_
                refine wm_ild (j := 10) (x := (nI ((sRt s j).length))) d_Mod_route_275 hI (by decide) (by decide) (by show _ < 6; omega) (by decide) ((hR.rt j hj).1) ?_
                refine wp_iaddN d_Mod_route_276 ?_
                refine wp_istore (lv' := [(9, .int (nI ((16 * j) + ((sRt s j).length)))), (7, .long (lN (pb8 one two 8))), (0, .ref o), (1, .int (nI j)), (4, .int (nI len)), (5, .int mn), (6, .int ot)]) d_Mod_route_277 (by decide) rfl ?_
                refine wp_aload_n d_Mod_route_279 rfl 2 rfl ?_
                refine wm_get d_Mod_route_280 11 (by decide) wF_Mod_35 rfl ?_
                refine wp_iload d_Mod_route_283 0 rfl ?_
                refine wp_lload d_Mod_route_285 1 rfl ?_
                refine wm_lst (j := 11) d_Mod_route_287 hI (by decide) (by decide) (by show _ < 96; omega) (by decide) ?_
                refine wp_aload_n d_Mod_route_288 rfl 2 rfl ?_
                refine wm_get d_Mod_route_289 12 (by decide) wF_Mod_39 rfl ?_
                refine wp_iload d_Mod_route_292 0 rfl ?_
                refine wp_iload d_Mod_route_294 4 rfl ?_
                refine wm_ist (j := 12) d_Mod_route_296 hI (by decide) (by decide) (by show _ < 96; omega) (by decide) ?_
                refine wp_aload_n d_Mod_route_297 rfl 2 rfl ?_
                refine wm_get d_Mod_route_298 13 (by decide) wF_Mod_42 rfl ?_
                refine wp_iload d_Mod_route_301 0 rfl ?_
                refine wp_iload d_Mod_route_303 5 rfl ?_
                refine wm_ist (j := 13) d_Mod_route_305 hI (by decide) (by decide) (by show _ < 96; omega) (by decide) ?_
                refine wp_aload_n d_Mod_route_306 rfl 2 rfl ?_
                refine wm_get d_Mod_route_307 14 (by decide) wF_Mod_45 rfl ?_
                refine wp_iload d_Mod_route_310 0 rfl ?_
                refine wp_iload d_Mod_route_312 6 rfl ?_
                refine wm_ist (j := 14) d_Mod_route_314 hI (by decide) (by decide) (by show _ < 96; omega) (by decide) ?_
                refine wp_aload_n d_Mod_route_315 rfl 2 rfl ?_
                refine wm_get d_Mod_route_316 10 (by decide) wF_Mod_32 rfl ?_
                refine wp_iload_n d_Mod_route_319 rfl 3 rfl ?_
                refine wp_dup2 d_Mod_route_320 rfl rfl ?_
                refine wm_ild (j := 10) (x := (nI ((sRt s j).length))) d_Mod_route_321 hI (by decide) (by decide) (by show _ < 6; omega) (by decide) (by rw [u2_ne _ _ (by decide), u2_ne _ _ (by decide), u2_ne _ _ (by decide)]; exact (hR.rt j hj).1) ?_
                refine wp_iconst (v := nI 1) d_Mod_route_322 (by decide) ?_
                refine wp_iaddN d_Mod_route_323 ?_
                refine wm_ist (j := 10) d_Mod_route_324 hI (by decide) (by decide) (by show _ < 6; omega) (by decide) ?_
                exact wp_vret d_Mod_route_325 rfl ⟨rfl, by rw [hst, if_neg c257]; exact ⟨_, _, _, rfl, hNew hgood hln c257, rfl⟩⟩
              · refine wp_aload_n d_Mod_route_260 rfl 1 rfl ?_
                refine wp_iconst (v := nI 2) d_Mod_route_261 (by decide) ?_
                refine wm_put (Fi' := va_up (va_up Fi 0 (nI 0)) 0 (nI 2)) d_Mod_route_262 0 (by decide) wF_Mod_111 rfl (by decide) rfl ?_
                exact wp_vret d_Mod_route_265 rfl ⟨rfl, by rw [hst, if_pos c257]; exact ⟨_, _, _, rfl, hR, rfl⟩⟩
          · refine wp_iload d_Mod_route_163 4 rfl ?_
            refine wp_iconst (v := -1) d_Mod_route_165 (by decide) ?_
            refine wp_icmp_eq (tgt := 174) d_Mod_route_166 (by decide) (fun c166 => ?_) (fun c166 => ?_)
            · refine wp_iconst (v := nI 0) d_Mod_route_174 (by decide) ?_
              refine wp_istore (lv' := [(9, .int (nI 0)), (7, .long (lN (pb8 one two 8))), (0, .ref o), (1, .int (nI j)), (4, .int (nI len)), (5, .int mn), (6, .int ot)]) d_Mod_route_175 (by decide) rfl ?_
              have hln := (show (lnOrNone s mn j && lnOrNone s ot j && !(decide (mn = ot ∧ mn ≠ -1))) = true from by first | (simp [lnOrNone, c127, c137, c143, c153, c160]; done) | (simp [lnOrNone, c127, c143, c153, c160]; done) | (simp [lnOrNone, c127, c137, c143, c160]; done) | (simp [lnOrNone, c127, c143, c160]; done) | (simp [lnOrNone, c127, c137, c143, c153, c166]; done) | (simp [lnOrNone, c127, c143, c153, c166]; done) | (simp [lnOrNone, c127, c137, c143, c166]; done) | (simp [lnOrNone, c127, c143, c166]; done))
              refine wp_lv [0, 1, 2, 3, 4, 5, 6] rfl ?_
              refine l_Mod_route2 (Fi := va_up Fi 0 (nI 0)) (R := sRt s) (p := pfx one two len) hI hR.rt hj hlen h16 (pfx_len one two len) (pfx_b (by omega) hgood) (by rw [pfx_len]; exact pb8_pfx (by omega) hgood) hRo rfl (fun hbad => ?_) (fun hno => ?_) ((sRt s j).length + 1) 0 (by omega) (by omega) (fun i e hi => absurd hi (by omega))
              · have hst := hstB (Or.inr (Or.inr hbad))
                refine wp_aload_n d_Mod_route_241 rfl 0 rfl ?_
                refine wm_get d_Mod_route_242 0 (by decide) wF_Mod_111 rfl ?_
                refine wp_toI (z := (nI 1)) (rfl) ?_
                refine wp_if_leN (tgt := 249) d_Mod_route_245 (by decide) (by omega) (fun c => absurd c (by decide)) (fun _ => ?_)
                exact wp_vret d_Mod_route_248 rfl ⟨rfl, by rw [hst]; exact ⟨_, _, _, rfl, hR, rfl⟩⟩
              · have hst := hstG hpf hln hno
                refine wp_aload_n d_Mod_route_241 rfl 1 rfl ?_
                refine wm_get d_Mod_route_242 0 (by decide) wF_Mod_111 rfl ?_
                refine wp_toI (z := (nI 0)) (rfl) ?_
                refine wp_if_leN (tgt := 249) d_Mod_route_245 (by decide) (by omega) (fun _ => ?_) (fun c => absurd c (by decide))
                refine wp_aload_n d_Mod_route_249 rfl 1 rfl ?_
                refine wm_get d_Mod_route_250 10 (by decide) wF_Mod_32 rfl ?_
                refine wp_iload_n d_Mod_route_253 rfl 2 rfl ?_
                refine wm_ild (j := 10) (x := (nI ((sRt s j).length))) d_Mod_route_254 hI (by decide) (by decide) (by show _ < 6; omega) (by decide) ((hR.rt j hj).1) ?_
                refine wp_bipush (v := nI 16) d_Mod_route_255 (by decide) ?_
                refine wp_neN (tgt := 266) d_Mod_route_257 (by decide) (by omega) (by omega) (fun c257 => ?_) (fun c257 => ?_)
                · refine wp_bipush (v := nI 16) d_Mod_route_266 (by decide) ?_
                  refine wp_iload_n d_Mod_route_268 rfl 2 rfl ?_
                  refine wp_imulN d_Mod_route_269 ?_
                  refine wp_aload_n d_Mod_route_270 rfl 1 rfl ?_
                  refine wm_get d_Mod_route_271 10 (by decide) wF_Mod_32 rfl ?_
                  refine wp_iload_n d_Mod_route_274 rfl 2 rfl ?_
                  refine wm_ild (j := 10) (x := (nI ((sRt s j).length))) d_Mod_route_275 hI (by decide) (by decide) (by show _ < 6; omega) (by decide) ((hR.rt j hj).1) ?_
                  refine wp_iaddN d_Mod_route_276 ?_
                  refine wp_istore (lv' := [(9, .int (nI ((16 * j) + ((sRt s j).length)))), (7, .long (lN (pb8 one two 8))), (0, .ref o), (1, .int (nI j)), (4, .int (nI len)), (5, .int mn), (6, .int ot)]) d_Mod_route_277 (by decide) rfl ?_
                  refine wp_aload_n d_Mod_route_279 rfl 2 rfl ?_
                  refine wm_get d_Mod_route_280 11 (by decide) wF_Mod_35 rfl ?_
                  refine wp_iload d_Mod_route_283 0 rfl ?_
                  refine wp_lload d_Mod_route_285 1 rfl ?_
                  refine wm_lst (j := 11) d_Mod_route_287 hI (by decide) (by decide) (by show _ < 96; omega) (by decide) ?_
                  refine wp_aload_n d_Mod_route_288 rfl 2 rfl ?_
                  refine wm_get d_Mod_route_289 12 (by decide) wF_Mod_39 rfl ?_
                  refine wp_iload d_Mod_route_292 0 rfl ?_
                  refine wp_iload d_Mod_route_294 4 rfl ?_
                  refine wm_ist (j := 12) d_Mod_route_296 hI (by decide) (by decide) (by show _ < 96; omega) (by decide) ?_
                  refine wp_aload_n d_Mod_route_297 rfl 2 rfl ?_
                  refine wm_get d_Mod_route_298 13 (by decide) wF_Mod_42 rfl ?_
                  refine wp_iload d_Mod_route_301 0 rfl ?_
                  refine wp_iload d_Mod_route_303 5 rfl ?_
                  refine wm_ist (j := 13) d_Mod_route_305 hI (by decide) (by decide) (by show _ < 96; omega) (by decide) ?_
                  refine wp_aload_n d_Mod_route_306 rfl 2 rfl ?_
                  refine wm_get d_Mod_route_307 14 (by decide) wF_Mod_45 rfl ?_
                  refine wp_iload d_Mod_route_310 0 rfl ?_
                  refine wp_iload d_Mod_route_312 6 rfl ?_
                  refine wm_ist (j := 14) d_Mod_route_314 hI (by decide) (by decide) (by show _ < 96; omega) (by decide) ?_
                  refine wp_aload_n d_Mod_route_315 rfl 2 rfl ?_
                  refine wm_get d_Mod_route_316 10 (by decide) wF_Mod_32 rfl ?_
                  refine wp_iload_n d_Mod_route_319 rfl 3 rfl ?_
                  refine wp_dup2 d_Mod_route_320 rfl rfl ?_
                  refine wm_ild (j := 10) (x := (nI ((sRt s j).length))) d_Mod_route_321 hI (by decide) (by decide) (by show _ < 6; omega) (by decide) (by rw [u2_ne _ _ (by decide), u2_ne _ _ (by decide), u2_ne _ _ (by decide)]; exact (hR.rt j hj).1) ?_
                  refine wp_iconst (v := nI 1) d_Mod_route_322 (by decide) ?_
                  refine wp_iaddN d_Mod_route_323 ?_
                  refine wm_ist (j := 10) d_Mod_route_324 hI (by decide) (by decide) (by show _ < 6; omega) (by decide) ?_
                  exact wp_vret d_Mod_route_325 rfl ⟨rfl, by rw [hst, if_neg c257]; exact ⟨_, _, _, rfl, hNew hgood hln c257, rfl⟩⟩
                · refine wp_aload_n d_Mod_route_260 rfl 1 rfl ?_
                  refine wp_iconst (v := nI 2) d_Mod_route_261 (by decide) ?_
                  refine wm_put (Fi' := va_up (va_up Fi 0 (nI 0)) 0 (nI 2)) d_Mod_route_262 0 (by decide) wF_Mod_111 rfl (by decide) rfl ?_
                  exact wp_vret d_Mod_route_265 rfl ⟨rfl, by rw [hst, if_pos c257]; exact ⟨_, _, _, rfl, hR, rfl⟩⟩
            · have hst := hstB (Or.inr (Or.inl (by first | (simp [lnOrNone, c127, c137]; done) | (simp [lnOrNone, c143, c153]; done) | (simp [c160, c166]; done) | (simp [← c160, c166]; done))))
              refine wp_aload_n d_Mod_route_169 rfl 1 rfl ?_
              refine wp_iconst (v := nI 1) d_Mod_route_170 (by decide) ?_
              refine wm_put (Fi' := va_up (va_up Fi 0 (nI 0)) 0 (nI 1)) d_Mod_route_171 0 (by decide) wF_Mod_111 rfl (by decide) rfl ?_
              refine wp_iconst (v := nI 0) d_Mod_route_174 (by decide) ?_
              refine wp_istore (lv' := [(9, .int (nI 0)), (7, .long (lN (pb8 one two 8))), (0, .ref o), (1, .int (nI j)), (4, .int (nI len)), (5, .int mn), (6, .int ot)]) d_Mod_route_175 (by decide) rfl ?_
              refine wp_aload_n d_Mod_route_177 rfl 2 rfl ?_
              refine wm_get d_Mod_route_178 0 (by decide) wF_Mod_111 rfl ?_
              refine wp_toI (z := (nI 1)) (rfl) ?_
              refine wp_if_neN (tgt := 241) d_Mod_route_181 (by decide) (by omega) (fun _ => ?_) (fun c => absurd c (by decide))
              refine wp_aload_n d_Mod_route_241 rfl 2 rfl ?_
              refine wm_get d_Mod_route_242 0 (by decide) wF_Mod_111 rfl ?_
              refine wp_toI (z := (nI 1)) (rfl) ?_
              refine wp_if_leN (tgt := 249) d_Mod_route_245 (by decide) (by omega) (fun c => absurd c (by decide)) (fun _ => ?_)
              exact wp_vret d_Mod_route_248 rfl ⟨rfl, by rw [hst]; exact ⟨_, _, _, rfl, hR, rfl⟩⟩
        · refine wp_aload_n d_Mod_route_146 rfl 1 rfl ?_
          refine wp_iload d_Mod_route_147 5 rfl ?_
          refine wp_iload_n d_Mod_route_149 rfl 2 rfl ?_
          refine wp_callV (r := 0) d_Mod_route_150 (link_V (as := [.int ot, .int (nI j)]) (rest := []) (r := (R_Mod, T_Mod, 43)) d_Mod_route_150 cal_Mod_isAt wM_Mod_126 rfl hM_o rfl) cal_Mod_isAt (c_Mod_isAtG hI hR.ln hLb hj ot) (Nat.le_of_ble_eq_true rfl) ⟨Nat.le_of_ble_eq_true rfl, Nat.le_of_ble_eq_true rfl⟩ ?_
          refine wp_if_eqB (tgt := 169) d_Mod_route_153 (by decide) (fun c153 => ?_) (fun c153 => ?_)
          · have hst := hstB (Or.inr (Or.inl (by first | (simp [lnOrNone, c127, c137]; done) | (simp [lnOrNone, c143, c153]; done) | (simp [c160, c166]; done) | (simp [← c160, c166]; done))))
            refine wp_aload_n d_Mod_route_169 rfl 1 rfl ?_
            refine wp_iconst (v := nI 1) d_Mod_route_170 (by decide) ?_
            refine wm_put (Fi' := va_up (va_up Fi 0 (nI 0)) 0 (nI 1)) d_Mod_route_171 0 (by decide) wF_Mod_111 rfl (by decide) rfl ?_
            refine wp_iconst (v := nI 0) d_Mod_route_174 (by decide) ?_
            refine wp_istore (lv' := [(9, .int (nI 0)), (7, .long (lN (pb8 one two 8))), (0, .ref o), (1, .int (nI j)), (4, .int (nI len)), (5, .int mn), (6, .int ot)]) d_Mod_route_175 (by decide) rfl ?_
            refine wp_aload_n d_Mod_route_177 rfl 2 rfl ?_
            refine wm_get d_Mod_route_178 0 (by decide) wF_Mod_111 rfl ?_
            refine wp_toI (z := (nI 1)) (rfl) ?_
            refine wp_if_neN (tgt := 241) d_Mod_route_181 (by decide) (by omega) (fun _ => ?_) (fun c => absurd c (by decide))
            refine wp_aload_n d_Mod_route_241 rfl 2 rfl ?_
            refine wm_get d_Mod_route_242 0 (by decide) wF_Mod_111 rfl ?_
            refine wp_toI (z := (nI 1)) (rfl) ?_
            refine wp_if_leN (tgt := 249) d_Mod_route_245 (by decide) (by omega) (fun c => absurd c (by decide)) (fun _ => ?_)
            exact wp_vret d_Mod_route_248 rfl ⟨rfl, by rw [hst]; exact ⟨_, _, _, rfl, hR, rfl⟩⟩
          · refine wp_iload d_Mod_route_156 4 rfl ?_
            refine wp_iload d_Mod_route_158 5 rfl ?_
            refine wp_icmp_ne (tgt := 174) d_Mod_route_160 (by decide) (fun c160 => ?_) (fun c160 => ?_)
            · refine wp_iconst (v := nI 0) d_Mod_route_174 (by decide) ?_
              refine wp_istore (lv' := [(9, .int (nI 0)), (7, .long (lN (pb8 one two 8))), (0, .ref o), (1, .int (nI j)), (4, .int (nI len)), (5, .int mn), (6, .int ot)]) d_Mod_route_175 (by decide) rfl ?_
              have hln := (show (lnOrNone s mn j && lnOrNone s ot j && !(decide (mn = ot ∧ mn ≠ -1))) = true from by first | (simp [lnOrNone, c127, c137, c143, c153, c160]; done) | (simp [lnOrNone, c127, c143, c153, c160]; done) | (simp [lnOrNone, c127, c137, c143, c160]; done) | (simp [lnOrNone, c127, c143, c160]; done) | (simp [lnOrNone, c127, c137, c143, c153, c166]; done) | (simp [lnOrNone, c127, c143, c153, c166]; done) | (simp [lnOrNone, c127, c137, c143, c166]; done) | (simp [lnOrNone, c127, c143, c166]; done))
              refine wp_lv [0, 1, 2, 3, 4, 5, 6] rfl ?_
              refine l_Mod_route2 (Fi := va_up Fi 0 (nI 0)) (R := sRt s) (p := pfx one two len) hI hR.rt hj hlen h16 (pfx_len one two len) (pfx_b (by omega) hgood) (by rw [pfx_len]; exact pb8_pfx (by omega) hgood) hRo rfl (fun hbad => ?_) (fun hno => ?_) ((sRt s j).length + 1) 0 (by omega) (by omega) (fun i e hi => absurd hi (by omega))
              · have hst := hstB (Or.inr (Or.inr hbad))
                refine wp_aload_n d_Mod_route_241 rfl 0 rfl ?_
                refine wm_get d_Mod_route_242 0 (by decide) wF_Mod_111 rfl ?_
                refine wp_toI (z := (nI 1)) (rfl) ?_
                refine wp_if_leN (tgt := 249) d_Mod_route_245 (by decide) (by omega) (fun c => absurd c (by decide)) (fun _ => ?_)
                exact wp_vret d_Mod_route_248 rfl ⟨rfl, by rw [hst]; exact ⟨_, _, _, rfl, hR, rfl⟩⟩
              · have hst := hstG hpf hln hno
                refine wp_aload_n d_Mod_route_241 rfl 1 rfl ?_
                refine wm_get d_Mod_route_242 0 (by decide) wF_Mod_111 rfl ?_
                refine wp_toI (z := (nI 0)) (rfl) ?_
                refine wp_if_leN (tgt := 249) d_Mod_route_245 (by decide) (by omega) (fun _ => ?_) (fun c => absurd c (by decide))
                refine wp_aload_n d_Mod_route_249 rfl 1 rfl ?_
                refine wm_get d_Mod_route_250 10 (by decide) wF_Mod_32 rfl ?_
                refine wp_iload_n d_Mod_route_253 rfl 2 rfl ?_
                refine wm_ild (j := 10) (x := (nI ((sRt s j).length))) d_Mod_route_254 hI (by decide) (by decide) (by show _ < 6; omega) (by decide) ((hR.rt j hj).1) ?_
                refine wp_bipush (v := nI 16) d_Mod_route_255 (by decide) ?_
                refine wp_neN (tgt := 266) d_Mod_route_257 (by decide) (by omega) (by omega) (fun c257 => ?_) (fun c257 => ?_)
                · refine wp_bipush (v := nI 16) d_Mod_route_266 (by decide) ?_
                  refine wp_iload_n d_Mod_route_268 rfl 2 rfl ?_
                  refine wp_imulN d_Mod_route_269 ?_
                  refine wp_aload_n d_Mod_route_270 rfl 1 rfl ?_
                  refine wm_get d_Mod_route_271 10 (by decide) wF_Mod_32 rfl ?_
                  refine wp_iload_n d_Mod_route_274 rfl 2 rfl ?_
                  refine wm_ild (j := 10) (x := (nI ((sRt s j).length))) d_Mod_route_275 hI (by decide) (by decide) (by show _ < 6; omega) (by decide) ((hR.rt j hj).1) ?_
                  refine wp_iaddN d_Mod_route_276 ?_
                  refine wp_istore (lv' := [(9, .int (nI ((16 * j) + ((sRt s j).length)))), (7, .long (lN (pb8 one two 8))), (0, .ref o), (1, .int (nI j)), (4, .int (nI len)), (5, .int mn), (6, .int ot)]) d_Mod_route_277 (by decide) rfl ?_
                  refine wp_aload_n d_Mod_route_279 rfl 2 rfl ?_
                  refine wm_get d_Mod_route_280 11 (by decide) wF_Mod_35 rfl ?_
                  refine wp_iload d_Mod_route_283 0 rfl ?_
                  refine wp_lload d_Mod_route_285 1 rfl ?_
                  refine wm_lst (j := 11) d_Mod_route_287 hI (by decide) (by decide) (by show _ < 96; omega) (by decide) ?_
                  refine wp_aload_n d_Mod_route_288 rfl 2 rfl ?_
                  refine wm_get d_Mod_route_289 12 (by decide) wF_Mod_39 rfl ?_
                  refine wp_iload d_Mod_route_292 0 rfl ?_
                  refine wp_iload d_Mod_route_294 4 rfl ?_
                  refine wm_ist (j := 12) d_Mod_route_296 hI (by decide) (by decide) (by show _ < 96; omega) (by decide) ?_
                  refine wp_aload_n d_Mod_route_297 rfl 2 rfl ?_
                  refine wm_get d_Mod_route_298 13 (by decide) wF_Mod_42 rfl ?_
                  refine wp_iload d_Mod_route_301 0 rfl ?_
                  refine wp_iload d_Mod_route_303 5 rfl ?_
                  refine wm_ist (j := 13) d_Mod_route_305 hI (by decide) (by decide) (by show _ < 96; omega) (by decide) ?_
                  refine wp_aload_n d_Mod_route_306 rfl 2 rfl ?_
                  refine wm_get d_Mod_route_307 14 (by decide) wF_Mod_45 rfl ?_
                  refine wp_iload d_Mod_route_310 0 rfl ?_
                  refine wp_iload d_Mod_route_312 6 rfl ?_
                  refine wm_ist (j := 14) d_Mod_route_314 hI (by decide) (by decide) (by show _ < 96; omega) (by decide) ?_
                  refine wp_aload_n d_Mod_route_315 rfl 2 rfl ?_
                  refine wm_get d_Mod_route_316 10 (by decide) wF_Mod_32 rfl ?_
                  refine wp_iload_n d_Mod_route_319 rfl 3 rfl ?_
                  refine wp_dup2 d_Mod_route_320 rfl rfl ?_
                  refine wm_ild (j := 10) (x := (nI ((sRt s j).length))) d_Mod_route_321 hI (by decide) (by decide) (by show _ < 6; omega) (by decide) (by rw [u2_ne _ _ (by decide), u2_ne _ _ (by decide), u2_ne _ _ (by decide)]; exact (hR.rt j hj).1) ?_
                  refine wp_iconst (v := nI 1) d_Mod_route_322 (by decide) ?_
                  refine wp_iaddN d_Mod_route_323 ?_
                  refine wm_ist (j := 10) d_Mod_route_324 hI (by decide) (by decide) (by show _ < 6; omega) (by decide) ?_
                  exact wp_vret d_Mod_route_325 rfl ⟨rfl, by rw [hst, if_neg c257]; exact ⟨_, _, _, rfl, hNew hgood hln c257, rfl⟩⟩
                · refine wp_aload_n d_Mod_route_260 rfl 1 rfl ?_
                  refine wp_iconst (v := nI 2) d_Mod_route_261 (by decide) ?_
                  refine wm_put (Fi' := va_up (va_up Fi 0 (nI 0)) 0 (nI 2)) d_Mod_route_262 0 (by decide) wF_Mod_111 rfl (by decide) rfl ?_
                  exact wp_vret d_Mod_route_265 rfl ⟨rfl, by rw [hst, if_pos c257]; exact ⟨_, _, _, rfl, hR, rfl⟩⟩
            · refine wp_iload d_Mod_route_163 4 rfl ?_
              refine wp_iconst (v := -1) d_Mod_route_165 (by decide) ?_
              refine wp_icmp_eq (tgt := 174) d_Mod_route_166 (by decide) (fun c166 => ?_) (fun c166 => ?_)
              · refine wp_iconst (v := nI 0) d_Mod_route_174 (by decide) ?_
                refine wp_istore (lv' := [(9, .int (nI 0)), (7, .long (lN (pb8 one two 8))), (0, .ref o), (1, .int (nI j)), (4, .int (nI len)), (5, .int mn), (6, .int ot)]) d_Mod_route_175 (by decide) rfl ?_
                have hln := (show (lnOrNone s mn j && lnOrNone s ot j && !(decide (mn = ot ∧ mn ≠ -1))) = true from by first | (simp [lnOrNone, c127, c137, c143, c153, c160]; done) | (simp [lnOrNone, c127, c143, c153, c160]; done) | (simp [lnOrNone, c127, c137, c143, c160]; done) | (simp [lnOrNone, c127, c143, c160]; done) | (simp [lnOrNone, c127, c137, c143, c153, c166]; done) | (simp [lnOrNone, c127, c143, c153, c166]; done) | (simp [lnOrNone, c127, c137, c143, c166]; done) | (simp [lnOrNone, c127, c143, c166]; done))
                refine wp_lv [0, 1, 2, 3, 4, 5, 6] rfl ?_
                refine l_Mod_route2 (Fi := va_up Fi 0 (nI 0)) (R := sRt s) (p := pfx one two len) hI hR.rt hj hlen h16 (pfx_len one two len) (pfx_b (by omega) hgood) (by rw [pfx_len]; exact pb8_pfx (by omega) hgood) hRo rfl (fun hbad => ?_) (fun hno => ?_) ((sRt s j).length + 1) 0 (by omega) (by omega) (fun i e hi => absurd hi (by omega))
                · have hst := hstB (Or.inr (Or.inr hbad))
                  refine wp_aload_n d_Mod_route_241 rfl 0 rfl ?_
                  refine wm_get d_Mod_route_242 0 (by decide) wF_Mod_111 rfl ?_
                  refine wp_toI (z := (nI 1)) (rfl) ?_
                  refine wp_if_leN (tgt := 249) d_Mod_route_245 (by decide) (by omega) (fun c => absurd c (by decide)) (fun _ => ?_)
                  exact wp_vret d_Mod_route_248 rfl ⟨rfl, by rw [hst]; exact ⟨_, _, _, rfl, hR, rfl⟩⟩
                · have hst := hstG hpf hln hno
                  refine wp_aload_n d_Mod_route_241 rfl 1 rfl ?_
                  refine wm_get d_Mod_route_242 0 (by decide) wF_Mod_111 rfl ?_
                  refine wp_toI (z := (nI 0)) (rfl) ?_
                  refine wp_if_leN (tgt := 249) d_Mod_route_245 (by decide) (by omega) (fun _ => ?_) (fun c => absurd c (by decide))
                  refine wp_aload_n d_Mod_route_249 rfl 1 rfl ?_
                  refine wm_get d_Mod_route_250 10 (by decide) wF_Mod_32 rfl ?_
                  refine wp_iload_n d_Mod_route_253 rfl 2 rfl ?_
                  refine wm_ild (j := 10) (x := (nI ((sRt s j).length))) d_Mod_route_254 hI (by decide) (by decide) (by show _ < 6; omega) (by decide) ((hR.rt j hj).1) ?_
                  refine wp_bipush (v := nI 16) d_Mod_route_255 (by decide) ?_
                  refine wp_neN (tgt := 266) d_Mod_route_257 (by decide) (by omega) (by omega) (fun c257 => ?_) (fun c257 => ?_)
                  · refine wp_bipush (v := nI 16) d_Mod_route_266 (by decide) ?_
                    refine wp_iload_n d_Mod_route_268 rfl 2 rfl ?_
                    refine wp_imulN d_Mod_route_269 ?_
                    refine wp_aload_n d_Mod_route_270 rfl 1 rfl ?_
                    refine wm_get d_Mod_route_271 10 (by decide) wF_Mod_32 rfl ?_
                    refine wp_iload_n d_Mod_route_274 rfl 2 rfl ?_
                    refine wm_ild (j := 10) (x := (nI ((sRt s j).length))) d_Mod_route_275 hI (by decide) (by decide) (by show _ < 6; omega) (by decide) ((hR.rt j hj).1) ?_
                    refine wp_iaddN d_Mod_route_276 ?_
                    refine wp_istore (lv' := [(9, .int (nI ((16 * j) + ((sRt s j).length)))), (7, .long (lN (pb8 one two 8))), (0, .ref o), (1, .int (nI j)), (4, .int (nI len)), (5, .int mn), (6, .int ot)]) d_Mod_route_277 (by decide) rfl ?_
                    refine wp_aload_n d_Mod_route_279 rfl 2 rfl ?_
                    refine wm_get d_Mod_route_280 11 (by decide) wF_Mod_35 rfl ?_
                    refine wp_iload d_Mod_route_283 0 rfl ?_
                    refine wp_lload d_Mod_route_285 1 rfl ?_
                    refine wm_lst (j := 11) d_Mod_route_287 hI (by decide) (by decide) (by show _ < 96; omega) (by decide) ?_
                    refine wp_aload_n d_Mod_route_288 rfl 2 rfl ?_
                    refine wm_get d_Mod_route_289 12 (by decide) wF_Mod_39 rfl ?_
                    refine wp_iload d_Mod_route_292 0 rfl ?_
                    refine wp_iload d_Mod_route_294 4 rfl ?_
                    refine wm_ist (j := 12) d_Mod_route_296 hI (by decide) (by decide) (by show _ < 96; omega) (by decide) ?_
                    refine wp_aload_n d_Mod_route_297 rfl 2 rfl ?_
                    refine wm_get d_Mod_route_298 13 (by decide) wF_Mod_42 rfl ?_
                    refine wp_iload d_Mod_route_301 0 rfl ?_
                    refine wp_iload d_Mod_route_303 5 rfl ?_
                    refine wm_ist (j := 13) d_Mod_route_305 hI (by decide) (by decide) (by show _ < 96; omega) (by decide) ?_
                    refine wp_aload_n d_Mod_route_306 rfl 2 rfl ?_
                    refine wm_get d_Mod_route_307 14 (by decide) wF_Mod_45 rfl ?_
                    refine wp_iload d_Mod_route_310 0 rfl ?_
                    refine wp_iload d_Mod_route_312 6 rfl ?_
                    refine wm_ist (j := 14) d_Mod_route_314 hI (by decide) (by decide) (by show _ < 96; omega) (by decide) ?_
                    refine wp_aload_n d_Mod_route_315 rfl 2 rfl ?_
                    refine wm_get d_Mod_route_316 10 (by decide) wF_Mod_32 rfl ?_
                    refine wp_iload_n d_Mod_route_319 rfl 3 rfl ?_
                    refine wp_dup2 d_Mod_route_320 rfl rfl ?_
                    refine wm_ild (j := 10) (x := (nI ((sRt s j).length))) d_Mod_route_321 hI (by decide) (by decide) (by show _ < 6; omega) (by decide) (by rw [u2_ne _ _ (by decide), u2_ne _ _ (by decide), u2_ne _ _ (by decide)]; exact (hR.rt j hj).1) ?_
                    refine wp_iconst (v := nI 1) d_Mod_route_322 (by decide) ?_
                    refine wp_iaddN d_Mod_route_323 ?_
                    refine wm_ist (j := 10) d_Mod_route_324 hI (by decide) (by decide) (by show _ < 6; omega) (by decide) ?_
                    exact wp_vret d_Mod_route_325 rfl ⟨rfl, by rw [hst, if_neg c257]; exact ⟨_, _, _, rfl, hNew hgood hln c257, rfl⟩⟩
                  · refine wp_aload_n d_Mod_route_260 rfl 1 rfl ?_
                    refine wp_iconst (v := nI 2) d_Mod_route_261 (by decide) ?_
                    refine wm_put (Fi' := va_up (va_up Fi 0 (nI 0)) 0 (nI 2)) d_Mod_route_262 0 (by decide) wF_Mod_111 rfl (by decide) rfl ?_
                    exact wp_vret d_Mod_route_265 rfl ⟨rfl, by rw [hst, if_pos c257]; exact ⟨_, _, _, rfl, hR, rfl⟩⟩
              · have hst := hstB (Or.inr (Or.inl (by first | (simp [lnOrNone, c127, c137]; done) | (simp [lnOrNone, c143, c153]; done) | (simp [c160, c166]; done) | (simp [← c160, c166]; done))))
                refine wp_aload_n d_Mod_route_169 rfl 1 rfl ?_
                refine wp_iconst (v := nI 1) d_Mod_route_170 (by decide) ?_
                refine wm_put (Fi' := va_up (va_up Fi 0 (nI 0)) 0 (nI 1)) d_Mod_route_171 0 (by decide) wF_Mod_111 rfl (by decide) rfl ?_
                refine wp_iconst (v := nI 0) d_Mod_route_174 (by decide) ?_
                refine wp_istore (lv' := [(9, .int (nI 0)), (7, .long (lN (pb8 one two 8))), (0, .ref o), (1, .int (nI j)), (4, .int (nI len)), (5, .int mn), (6, .int ot)]) d_Mod_route_175 (by decide) rfl ?_
                refine wp_aload_n d_Mod_route_177 rfl 2 rfl ?_
                refine wm_get d_Mod_route_178 0 (by decide) wF_Mod_111 rfl ?_
                refine wp_toI (z := (nI 1)) (rfl) ?_
                refine wp_if_neN (tgt := 241) d_Mod_route_181 (by decide) (by omega) (fun _ => ?_) (fun c => absurd c (by decide))
                refine wp_aload_n d_Mod_route_241 rfl 2 rfl ?_
                refine wm_get d_Mod_route_242 0 (by decide) wF_Mod_111 rfl ?_
                refine wp_toI (z := (nI 1)) (rfl) ?_
                refine wp_if_leN (tgt := 249) d_Mod_route_245 (by decide) (by omega) (fun c => absurd c (by decide)) (fun _ => ?_)
                exact wp_vret d_Mod_route_248 rfl ⟨rfl, by rw [hst]; exact ⟨_, _, _, rfl, hR, rfl⟩⟩
theorem c_Mod_route {G : Gt} {o : Nat} {A : Nat → Nat} {Fi : Nat → Int32} {M : Nat → Nat → Int32} {Ml : Nat → Nat → Int64} {s : Sa} {n : Nat} (hI : mInj o A) (hR : RepM s Fi M Ml) (hV : Inv n s) (x one two len mn ot : Int32) : CallE G m_Mod_route 3 41 [.ref o, .int x, .int one, .int two, .int len, .int mn, .int ot] (hM o A Fi M Ml) 0 0 none (RefOK o A (stRoute s x one two len mn ot)) := by
  have hLb : ∀ l a b v, sLn s l = some (a, b, v) → a < 6 ∧ b < 6 := fun l a b v h => ⟨(hV.2.1.2.2.2.1 l a b v h).2.1, (hV.2.1.2.2.2.1 l a b v h).2.2.1⟩
  cases hx : swB x && inZ len (nI 1) (nI 8) with
  | false =>
    rw [show stRoute s x one two len mn ot = (1, 0, s) by unfold stRoute rtOK; rw [hx]; rfl]
    exact CallR.E (CallR.up (c_Mod_route0 hx) (by decide) (by decide)) ⟨_, _, _, rfl, hR, rfl⟩
  | true =>
    rw [Bool.and_eq_true] at hx
    obtain ⟨j, hj, rfl⟩ := swB_of hx.1
    obtain ⟨L, h1, h2, rfl⟩ := inZ_w (by decide) (by decide) hx.2
    have hrt := hV.2.1.2.2.2.2.2.1
    exact c_Mod_route1 hI hR hLb (fun x => (hrt x).1) hj ⟨h1, h2⟩ (fun e he => ⟨((hrt j).2 e he).1, ((hrt j).2 e he).2.1, ((hrt j).2 e he).2.2.1⟩)
end Mod20
