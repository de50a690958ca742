section Mod19
theorem c_Mod_isAtS {G : Gt} {o : Nat} {A : Nat → Nat} {Fi : Nat → Int32} {M : Nat → Nat → Int32} {Ml : Nat → Nat → Int64} {s : Sa} (hI : mInj o A) (hL : RLn s (M 6) (M 7) (M 8) (M 9)) (hLb : ∀ l a b v, sLn s l = some (a, b, v) → a < 6 ∧ b < 6) {l x : Nat} (hl : l < 8) (hx : x < 6) : CallR G m_Mod_isAt 2 27 [.ref o, .int (nI l), .int (nI x)] (hM o A Fi M Ml) 0 0 (some (.int (bI (atSw s l x)))) (hM o A Fi M Ml) := by
  have h := hL l hl
  cases hc : sLn s l with
  | none =>
    rw [hc] at h
    exact CallR.eq (c_Mod_isAt (a := 0) (e := 0) hI hl hx h.1 (fun q => absurd q (by decide))) (by simp [atSw, hc]) rfl
  | some r =>
    obtain ⟨a, b, v⟩ := r
    have h3 := h.2.2 a b v hc
    have h4 := hLb l a b v hc
    rw [hc] at h
    exact CallR.eq (c_Mod_isAt hI hl hx h.1 (fun _ => ⟨h3.1, h3.2, h4.1, h4.2⟩)) (by simp [atSw, hc]) rfl
theorem c_Mod_isAtG {G : Gt} {o : Nat} {A : Nat → Nat} {Fi : Nat → Int32} {M : Nat → Nat → Int32} {Ml : Nat → Nat → Int64} {s : Sa} (hI : mInj o A) (hL : RLn s (M 6) (M 7) (M 8) (M 9)) (hLb : ∀ l a b v, sLn s l = some (a, b, v) → a < 6 ∧ b < 6) {x : Nat} (hx : x < 6) (z : Int32) : CallR G m_Mod_isAt 2 27 [.ref o, .int z, .int (nI x)] (hM o A Fi M Ml) 0 0 (some (.int (bI (atB s z x)))) (hM o A Fi M Ml) := by
  cases hz : inZ z (nI 0) (nI 7) with
  | false => exact CallR.eq (c_Mod_isAtX hz) (by simp [atB, hz]) rfl
  | true =>
    obtain ⟨l, hl, rfl⟩ := inZ_of (by decide) hz
    exact CallR.eq (c_Mod_isAtS hI hL hLb (by omega) hx) (by simp [atB, hz, nN_nI (show l < 2 ^ 31 by omega)]) rfl
theorem serves_wLn {s : Sa} {f : Nat → Option (Nat × Nat × Bool)} {l : Nat} : serves (wLn s f) l = match f l with
  | some (_, _, true) => true
  | _ => false := rfl
def dg (s : Sa) (x k : Nat) : Nat := ((List.range k).filter fun l => atSw s l x).length
theorem dg_s (s : Sa) (x k : Nat) : dg s x (k + 1) = dg s x k + if atSw s k x then 1 else 0 := by
  unfold dg
  rw [List.range_succ, List.filter_append, List.length_append]
  simp [List.filter_cons]
  split <;> rfl
theorem dg_le (s : Sa) (x k : Nat) : dg s x k ≤ k := by
  have := List.length_filter_le (fun l => atSw s l x) (List.range k)
  rw [List.length_range] at this
  exact this
set_option maxRecDepth 20000 in
theorem c_Mod_line0 {G : Gt} {o : Nat} {A : Nat → Nat} {Fi : Nat → Int32} {M : Nat → Nat → Int32} {Ml : Nat → Nat → Int64} {x a b : Int32} (hx : inZ x (nI 0) (nI 7) = false) : CallR G m_Mod_line 1 15 [.ref o, .int x, .int a, .int b] (hM o A Fi M Ml) 0 0 none (hM o A (va_up Fi 0 (nI 1)) M Ml) := by
  refine CallS.of (Nat.le_of_ble_eq_true rfl) ?_
  refine wp_aload_n d_Mod_line_0 rfl 0 rfl ?_
  refine wp_iload_n d_Mod_line_1 rfl 1 rfl ?_
  refine wp_iconst (v := nI 0) d_Mod_line_2 (by decide) ?_
  refine wp_bipush (v := nI 7) d_Mod_line_3 (by decide) ?_
  refine wp_callV (r := 1) d_Mod_line_5 (link_S (av := [.int x, .int (nI 0), .int (nI 7)]) (rest := [.ref o]) d_Mod_line_5 cal_Mod_in wM_Mod_115 rfl) cal_Mod_in (c_Mod_inF hx) (Nat.le_of_ble_eq_true rfl) ⟨Nat.le_of_ble_eq_true rfl, Nat.le_of_ble_eq_true rfl⟩ ?_
  refine wp_if_eqB (tgt := 43) d_Mod_line_8 (by decide) (fun _ => ?_) (fun c => absurd c (by decide))
  refine wp_iconst (v := nI 1) d_Mod_line_43 (by decide) ?_
  refine wm_put (Fi' := va_up Fi 0 (nI 1)) d_Mod_line_44 0 (by decide) wF_Mod_111 rfl (by decide) rfl ?_
  refine wp_iconst (v := nI 0) d_Mod_line_47 (by decide) ?_
  refine wp_istore (lv' := [(4, .int (nI 0)), (0, .ref o), (1, .int x), (2, .int a), (3, .int b)]) d_Mod_line_48 (by decide) rfl ?_
  refine wp_iconst (v := nI 0) d_Mod_line_50 (by decide) ?_
  refine wp_istore (lv' := [(5, .int (nI 0)), (4, .int (nI 0)), (0, .ref o), (1, .int x), (2, .int a), (3, .int b)]) d_Mod_line_51 (by decide) rfl ?_
  refine wp_iconst (v := nI 0) d_Mod_line_53 (by decide) ?_
  refine wp_istore (lv' := [(6, .int (nI 0)), (5, .int (nI 0)), (4, .int (nI 0)), (0, .ref o), (1, .int x), (2, .int a), (3, .int b)]) d_Mod_line_54 (by decide) rfl ?_
  refine wp_iload d_Mod_line_56 0 rfl ?_
  refine wp_bipush (v := nI 8) d_Mod_line_58 (by decide) ?_
  refine wp_geN (tgt := 116) d_Mod_line_60 (by decide) (by omega) (by omega) (fun c => absurd c (by decide)) (fun _ => ?_)
  refine wp_aload_n d_Mod_line_63 rfl 3 rfl ?_
  refine wm_get d_Mod_line_64 0 (by decide) wF_Mod_111 rfl ?_
  refine wp_toI (z := (nI 1)) (rfl) ?_
  refine wp_if_neN (tgt := 116) d_Mod_line_67 (by decide) (by omega) (fun _ => ?_) (fun c => absurd c (by decide))
  refine wp_iload d_Mod_line_116 2 rfl ?_
  refine wp_iconst (v := nI 4) d_Mod_line_118 (by decide) ?_
  refine wp_eqN (tgt := 128) d_Mod_line_119 (by decide) (by omega) (by omega) (fun c => absurd c (by decide)) (fun _ => ?_)
  refine wp_iload d_Mod_line_122 1 rfl ?_
  refine wp_iconst (v := nI 4) d_Mod_line_124 (by decide) ?_
  refine wp_neN (tgt := 133) d_Mod_line_125 (by decide) (by omega) (by omega) (fun _ => ?_) (fun c => absurd c (by decide))
  refine wp_aload_n d_Mod_line_133 rfl 3 rfl ?_
  refine wm_get d_Mod_line_134 0 (by decide) wF_Mod_111 rfl ?_
  refine wp_toI (z := (nI 1)) (rfl) ?_
  refine wp_if_leN (tgt := 141) d_Mod_line_137 (by decide) (by omega) (fun c => absurd c (by decide)) (fun _ => ?_)
  exact wp_vret d_Mod_line_140 rfl ⟨rfl, rfl⟩
set_option maxRecDepth 20000 in
theorem c_Mod_line1 {G : Gt} {o : Nat} {A : Nat → Nat} {Fi : Nat → Int32} {M : Nat → Nat → Int32} {Ml : Nat → Nat → Int64} {s : Sa} (hI : mInj o A) (hL : RLn s (M 6) (M 7) (M 8) (M 9)) {l : Nat} {a b : Int32} (hl : l < 8) (hx : (!(lnB s l) && swB a && swB b && !(decide (a = b))) = false) : CallR G m_Mod_line 2 27 [.ref o, .int (nI l), .int a, .int b] (hM o A Fi M Ml) 0 0 none (hM o A (va_up Fi 0 (nI 1)) M Ml) := by
  refine CallS.of (Nat.le_of_ble_eq_true rfl) ?_
  refine wp_aload_n d_Mod_line_0 rfl 0 rfl ?_
  refine wp_iload_n d_Mod_line_1 rfl 1 rfl ?_
  refine wp_iconst (v := nI 0) d_Mod_line_2 (by decide) ?_
  refine wp_bipush (v := nI 7) d_Mod_line_3 (by decide) ?_
  refine wp_callV (r := 1) d_Mod_line_5 (link_S (av := [.int (nI l), .int (nI 0), .int (nI 7)]) (rest := [.ref o]) d_Mod_line_5 cal_Mod_in wM_Mod_115 rfl) cal_Mod_in (c_Mod_inT (by omega) (by omega) (by omega)) (Nat.le_of_ble_eq_true rfl) ⟨Nat.le_of_ble_eq_true rfl, Nat.le_of_ble_eq_true rfl⟩ ?_
  refine wp_if_eqB (tgt := 43) d_Mod_line_8 (by decide) (fun c => absurd c (by decide)) (fun _ => ?_)
  refine wp_aload_n d_Mod_line_11 rfl 0 rfl ?_
  refine wm_get d_Mod_line_12 6 (by decide) wF_Mod_19 rfl ?_
  refine wp_iload_n d_Mod_line_15 rfl 1 rfl ?_
  refine wm_zld (j := 6) (x := (bI (lnB s l))) d_Mod_line_16 hI (by decide) (by decide) (by show _ < 8; omega) (by decide) ((hL l hl).1) ?_
  refine wp_if_neB (tgt := 43) d_Mod_line_17 (by decide) (fun c17 => ?_) (fun c17 => ?_)
  · refine wp_iconst (v := nI 1) d_Mod_line_43 (by decide) ?_
    refine wm_put (Fi' := va_up Fi 0 (nI 1)) d_Mod_line_44 0 (by decide) wF_Mod_111 rfl (by decide) rfl ?_
    refine wp_iconst (v := nI 0) d_Mod_line_47 (by decide) ?_
    refine wp_istore (lv' := [(4, .int (nI 0)), (0, .ref o), (1, .int (nI l)), (2, .int a), (3, .int b)]) d_Mod_line_48 (by decide) rfl ?_
    refine wp_iconst (v := nI 0) d_Mod_line_50 (by decide) ?_
    refine wp_istore (lv' := [(5, .int (nI 0)), (4, .int (nI 0)), (0, .ref o), (1, .int (nI l)), (2, .int a), (3, .int b)]) d_Mod_line_51 (by decide) rfl ?_
    refine wp_iconst (v := nI 0) d_Mod_line_53 (by decide) ?_
    refine wp_istore (lv' := [(6, .int (nI 0)), (5, .int (nI 0)), (4, .int (nI 0)), (0, .ref o), (1, .int (nI l)), (2, .int a), (3, .int b)]) d_Mod_line_54 (by decide) rfl ?_
    refine wp_iload d_Mod_line_56 0 rfl ?_
    refine wp_bipush (v := nI 8) d_Mod_line_58 (by decide) ?_
    refine wp_geN (tgt := 116) d_Mod_line_60 (by decide) (by omega) (by omega) (fun c => absurd c (by decide)) (fun _ => ?_)
    refine wp_aload_n d_Mod_line_63 rfl 3 rfl ?_
    refine wm_get d_Mod_line_64 0 (by decide) wF_Mod_111 rfl ?_
    refine wp_toI (z := (nI 1)) (rfl) ?_
    refine wp_if_neN (tgt := 116) d_Mod_line_67 (by decide) (by omega) (fun _ => ?_) (fun c => absurd c (by decide))
    refine wp_iload d_Mod_line_116 2 rfl ?_
    refine wp_iconst (v := nI 4) d_Mod_line_118 (by decide) ?_
    refine wp_eqN (tgt := 128) d_Mod_line_119 (by decide) (by omega) (by omega) (fun c => absurd c (by decide)) (fun _ => ?_)
    refine wp_iload d_Mod_line_122 1 rfl ?_
    refine wp_iconst (v := nI 4) d_Mod_line_124 (by decide) ?_
    refine wp_neN (tgt := 133) d_Mod_line_125 (by decide) (by omega) (by omega) (fun _ => ?_) (fun c => absurd c (by decide))
    refine wp_aload_n d_Mod_line_133 rfl 3 rfl ?_
    refine wm_get d_Mod_line_134 0 (by decide) wF_Mod_111 rfl ?_
    refine wp_toI (z := (nI 1)) (rfl) ?_
    refine wp_if_leN (tgt := 141) d_Mod_line_137 (by decide) (by omega) (fun c => absurd c (by decide)) (fun _ => ?_)
    exact wp_vret d_Mod_line_140 rfl ⟨rfl, rfl⟩
  · refine wp_iload_n d_Mod_line_20 rfl 2 rfl ?_
    refine wp_callV (r := 1) d_Mod_line_21 (link_S (av := [.int a]) (rest := [.ref o]) d_Mod_line_21 cal_Mod_isSwitch wM_Mod_123 rfl) cal_Mod_isSwitch (c_Mod_isSwitch a) (Nat.le_of_ble_eq_true rfl) ⟨Nat.le_of_ble_eq_true rfl, Nat.le_of_ble_eq_true rfl⟩ ?_
    refine wp_if_eqB (tgt := 43) d_Mod_line_24 (by decide) (fun c24 => ?_) (fun c24 => ?_)
    · refine wp_iconst (v := nI 1) d_Mod_line_43 (by decide) ?_
      refine wm_put (Fi' := va_up Fi 0 (nI 1)) d_Mod_line_44 0 (by decide) wF_Mod_111 rfl (by decide) rfl ?_
      refine wp_iconst (v := nI 0) d_Mod_line_47 (by decide) ?_
      refine wp_istore (lv' := [(4, .int (nI 0)), (0, .ref o), (1, .int (nI l)), (2, .int a), (3, .int b)]) d_Mod_line_48 (by decide) rfl ?_
      refine wp_iconst (v := nI 0) d_Mod_line_50 (by decide) ?_
      refine wp_istore (lv' := [(5, .int (nI 0)), (4, .int (nI 0)), (0, .ref o), (1, .int (nI l)), (2, .int a), (3, .int b)]) d_Mod_line_51 (by decide) rfl ?_
      refine wp_iconst (v := nI 0) d_Mod_line_53 (by decide) ?_
      refine wp_istore (lv' := [(6, .int (nI 0)), (5, .int (nI 0)), (4, .int (nI 0)), (0, .ref o), (1, .int (nI l)), (2, .int a), (3, .int b)]) d_Mod_line_54 (by decide) rfl ?_
      refine wp_iload d_Mod_line_56 0 rfl ?_
      refine wp_bipush (v := nI 8) d_Mod_line_58 (by decide) ?_
      refine wp_geN (tgt := 116) d_Mod_line_60 (by decide) (by omega) (by omega) (fun c => absurd c (by decide)) (fun _ => ?_)
      refine wp_aload_n d_Mod_line_63 rfl 3 rfl ?_
      refine wm_get d_Mod_line_64 0 (by decide) wF_Mod_111 rfl ?_
      refine wp_toI (z := (nI 1)) (rfl) ?_
      refine wp_if_neN (tgt := 116) d_Mod_line_67 (by decide) (by omega) (fun _ => ?_) (fun c => absurd c (by decide))
      refine wp_iload d_Mod_line_116 2 rfl ?_
      refine wp_iconst (v := nI 4) d_Mod_line_118 (by decide) ?_
      refine wp_eqN (tgt := 128) d_Mod_line_119 (by decide) (by omega) (by omega) (fun c => absurd c (by decide)) (fun _ => ?_)
      refine wp_iload d_Mod_line_122 1 rfl ?_
      refine wp_iconst (v := nI 4) d_Mod_line_124 (by decide) ?_
      refine wp_neN (tgt := 133) d_Mod_line_125 (by decide) (by omega) (by omega) (fun _ => ?_) (fun c => absurd c (by decide))
      refine wp_aload_n d_Mod_line_133 rfl 3 rfl ?_
      refine wm_get d_Mod_line_134 0 (by decide) wF_Mod_111 rfl ?_
      refine wp_toI (z := (nI 1)) (rfl) ?_
      refine wp_if_leN (tgt := 141) d_Mod_line_137 (by decide) (by omega) (fun c => absurd c (by decide)) (fun _ => ?_)
      exact wp_vret d_Mod_line_140 rfl ⟨rfl, rfl⟩
    · refine wp_iload_n d_Mod_line_27 rfl 3 rfl ?_
      refine wp_callV (r := 1) d_Mod_line_28 (link_S (av := [.int b]) (rest := [.ref o]) d_Mod_line_28 cal_Mod_isSwitch wM_Mod_123 rfl) cal_Mod_isSwitch (c_Mod_isSwitch b) (Nat.le_of_ble_eq_true rfl) ⟨Nat.le_of_ble_eq_true rfl, Nat.le_of_ble_eq_true rfl⟩ ?_
      refine wp_if_eqB (tgt := 43) d_Mod_line_31 (by decide) (fun c31 => ?_) (fun c31 => ?_)
      · refine wp_iconst (v := nI 1) d_Mod_line_43 (by decide) ?_
        refine wm_put (Fi' := va_up Fi 0 (nI 1)) d_Mod_line_44 0 (by decide) wF_Mod_111 rfl (by decide) rfl ?_
        refine wp_iconst (v := nI 0) d_Mod_line_47 (by decide) ?_
        refine wp_istore (lv' := [(4, .int (nI 0)), (0, .ref o), (1, .int (nI l)), (2, .int a), (3, .int b)]) d_Mod_line_48 (by decide) rfl ?_
        refine wp_iconst (v := nI 0) d_Mod_line_50 (by decide) ?_
        refine wp_istore (lv' := [(5, .int (nI 0)), (4, .int (nI 0)), (0, .ref o), (1, .int (nI l)), (2, .int a), (3, .int b)]) d_Mod_line_51 (by decide) rfl ?_
        refine wp_iconst (v := nI 0) d_Mod_line_53 (by decide) ?_
        refine wp_istore (lv' := [(6, .int (nI 0)), (5, .int (nI 0)), (4, .int (nI 0)), (0, .ref o), (1, .int (nI l)), (2, .int a), (3, .int b)]) d_Mod_line_54 (by decide) rfl ?_
        refine wp_iload d_Mod_line_56 0 rfl ?_
        refine wp_bipush (v := nI 8) d_Mod_line_58 (by decide) ?_
        refine wp_geN (tgt := 116) d_Mod_line_60 (by decide) (by omega) (by omega) (fun c => absurd c (by decide)) (fun _ => ?_)
        refine wp_aload_n d_Mod_line_63 rfl 3 rfl ?_
        refine wm_get d_Mod_line_64 0 (by decide) wF_Mod_111 rfl ?_
        refine wp_toI (z := (nI 1)) (rfl) ?_
        refine wp_if_neN (tgt := 116) d_Mod_line_67 (by decide) (by omega) (fun _ => ?_) (fun c => absurd c (by decide))
        refine wp_iload d_Mod_line_116 2 rfl ?_
        refine wp_iconst (v := nI 4) d_Mod_line_118 (by decide) ?_
        refine wp_eqN (tgt := 128) d_Mod_line_119 (by decide) (by omega) (by omega) (fun c => absurd c (by decide)) (fun _ => ?_)
        refine wp_iload d_Mod_line_122 1 rfl ?_
        refine wp_iconst (v := nI 4) d_Mod_line_124 (by decide) ?_
        refine wp_neN (tgt := 133) d_Mod_line_125 (by decide) (by omega) (by omega) (fun _ => ?_) (fun c => absurd c (by decide))
        refine wp_aload_n d_Mod_line_133 rfl 3 rfl ?_
        refine wm_get d_Mod_line_134 0 (by decide) wF_Mod_111 rfl ?_
        refine wp_toI (z := (nI 1)) (rfl) ?_
        refine wp_if_leN (tgt := 141) d_Mod_line_137 (by decide) (by omega) (fun c => absurd c (by decide)) (fun _ => ?_)
        exact wp_vret d_Mod_line_140 rfl ⟨rfl, rfl⟩
      · refine wp_iload_n d_Mod_line_34 rfl 2 rfl ?_
        refine wp_iload_n d_Mod_line_35 rfl 3 rfl ?_
        refine wp_icmp_eq (tgt := 43) d_Mod_line_36 (by decide) (fun c36 => ?_) (fun c36 => ?_)
        · refine wp_iconst (v := nI 1) d_Mod_line_43 (by decide) ?_
          refine wm_put (Fi' := va_up Fi 0 (nI 1)) d_Mod_line_44 0 (by decide) wF_Mod_111 rfl (by decide) rfl ?_
          refine wp_iconst (v := nI 0) d_Mod_line_47 (by decide) ?_
          refine wp_istore (lv' := [(4, .int (nI 0)), (0, .ref o), (1, .int (nI l)), (2, .int a), (3, .int b)]) d_Mod_line_48 (by decide) rfl ?_
          refine wp_iconst (v := nI 0) d_Mod_line_50 (by decide) ?_
          refine wp_istore (lv' := [(5, .int (nI 0)), (4, .int (nI 0)), (0, .ref o), (1, .int (nI l)), (2, .int a), (3, .int b)]) d_Mod_line_51 (by decide) rfl ?_
          refine wp_iconst (v := nI 0) d_Mod_line_53 (by decide) ?_
          refine wp_istore (lv' := [(6, .int (nI 0)), (5, .int (nI 0)), (4, .int (nI 0)), (0, .ref o), (1, .int (nI l)), (2, .int a), (3, .int b)]) d_Mod_line_54 (by decide) rfl ?_
          refine wp_iload d_Mod_line_56 0 rfl ?_
          refine wp_bipush (v := nI 8) d_Mod_line_58 (by decide) ?_
          refine wp_geN (tgt := 116) d_Mod_line_60 (by decide) (by omega) (by omega) (fun c => absurd c (by decide)) (fun _ => ?_)
          refine wp_aload_n d_Mod_line_63 rfl 3 rfl ?_
          refine wm_get d_Mod_line_64 0 (by decide) wF_Mod_111 rfl ?_
          refine wp_toI (z := (nI 1)) (rfl) ?_
          refine wp_if_neN (tgt := 116) d_Mod_line_67 (by decide) (by omega) (fun _ => ?_) (fun c => absurd c (by decide))
          refine wp_iload d_Mod_line_116 2 rfl ?_
          refine wp_iconst (v := nI 4) d_Mod_line_118 (by decide) ?_
          refine wp_eqN (tgt := 128) d_Mod_line_119 (by decide) (by omega) (by omega) (fun c => absurd c (by decide)) (fun _ => ?_)
          refine wp_iload d_Mod_line_122 1 rfl ?_
          refine wp_iconst (v := nI 4) d_Mod_line_124 (by decide) ?_
          refine wp_neN (tgt := 133) d_Mod_line_125 (by decide) (by omega) (by omega) (fun _ => ?_) (fun c => absurd c (by decide))
          refine wp_aload_n d_Mod_line_133 rfl 3 rfl ?_
          refine wm_get d_Mod_line_134 0 (by decide) wF_Mod_111 rfl ?_
          refine wp_toI (z := (nI 1)) (rfl) ?_
          refine wp_if_leN (tgt := 141) d_Mod_line_137 (by decide) (by omega) (fun c => absurd c (by decide)) (fun _ => ?_)
          exact wp_vret d_Mod_line_140 rfl ⟨rfl, rfl⟩
        · exact absurd hx (by simp [c17, show swB a = true from c24, show swB b = true from c31, c36])
set_option maxRecDepth 20000 in
theorem l_Mod_line {G : Gt} {B : Bt} {o : Nat} {A : Nat → Nat} {Fi : Nat → Int32} {M : Nat → Nat → Int32} {Ml : Nat → Nat → Int64} {s : Sa} (hI : mInj o A) (hL : RLn s (M 6) (M 7) (M 8) (M 9)) (hLb : ∀ l a b v, sLn s l = some (a, b, v) → a < 6 ∧ b < 6) {l a b : Nat} (ha : a < 6) (hb : b < 6) (hF : Fi 0 = nI 0) (hB : Bd B = 3 ∧ Bw B = 42) (KK : WP G m_Mod_line B 116 [(6, .int (nI 8)), (4, .int (nI (dg s a 8))), (5, .int (nI (dg s b 8))), (0, .ref o), (1, .int (nI l)), (2, .int (nI a)), (3, .int (nI b))] [] (hM o A Fi M Ml) 0 0) : ∀ (f k p q : Nat), 8 - k < f → k ≤ 8 → p = dg s a k → q = dg s b k → WP G m_Mod_line B 56 [(6, .int (nI k)), (4, .int (nI p)), (5, .int (nI q)), (0, .ref o), (1, .int (nI l)), (2, .int (nI a)), (3, .int (nI b))] [] (hM o A Fi M Ml) 0 0 := by
  intro f
  induction f with
  | zero =>
    intro k p q h1
    omega
  | succ f ih =>
    intro k p q hf hk hp hq
    refine wp_iload d_Mod_line_56 0 rfl ?_
    refine wp_bipush (v := nI 8) d_Mod_line_58 (by decide) ?_
    refine wp_geN (tgt := 116) d_Mod_line_60 (by decide) (by omega) (by omega) (fun c60 => ?_) (fun c60 => ?_)
    · obtain rfl : k = 8 := by omega
      subst hp
      subst hq
      exact KK
    · refine wp_aload_n d_Mod_line_63 rfl 3 rfl ?_
      refine wm_get d_Mod_line_64 0 (by decide) wF_Mod_111 rfl ?_
      refine wp_toI (z := (nI 0)) (hF) ?_
      refine wp_if_neN (tgt := 116) d_Mod_line_67 (by decide) (by omega) (fun c => absurd c (by decide)) (fun _ => ?_)
      refine wp_iload d_Mod_line_70 1 rfl ?_
      refine wp_aload_n d_Mod_line_72 rfl 3 rfl ?_
      refine wp_iload d_Mod_line_73 0 rfl ?_
      refine wp_iload_n d_Mod_line_75 rfl 5 rfl ?_
      refine wp_callV (r := 1) d_Mod_line_76 (link_V (as := [.int (nI k), .int (nI a)]) (rest := [.int (nI p)]) (r := (R_Mod, T_Mod, 43)) d_Mod_line_76 cal_Mod_isAt wM_Mod_126 rfl hM_o rfl) cal_Mod_isAt (c_Mod_isAtS hI hL hLb (by omega) (by omega)) (Nat.le_of_ble_eq_true rfl) ⟨by rw [hB.1]; decide, by rw [hB.2]; decide⟩ ?_
      refine wp_if_eqB (tgt := 86) d_Mod_line_79 (by decide) (fun c79 => ?_) (fun c79 => ?_)
      · refine wp_iconst (v := nI 0) d_Mod_line_86 (by decide) ?_
        refine wp_iaddN d_Mod_line_87 ?_
        refine wp_istore (lv' := [(4, .int (nI (p + 0))), (6, .int (nI k)), (5, .int (nI q)), (0, .ref o), (1, .int (nI l)), (2, .int (nI a)), (3, .int (nI b))]) d_Mod_line_88 (by decide) rfl ?_
        refine wp_iload d_Mod_line_90 2 rfl ?_
        refine wp_aload_n d_Mod_line_92 rfl 3 rfl ?_
        refine wp_iload d_Mod_line_93 1 rfl ?_
        refine wp_iload_n d_Mod_line_95 rfl 6 rfl ?_
        refine wp_callV (r := 1) d_Mod_line_96 (link_V (as := [.int (nI k), .int (nI b)]) (rest := [.int (nI q)]) (r := (R_Mod, T_Mod, 43)) d_Mod_line_96 cal_Mod_isAt wM_Mod_126 rfl hM_o rfl) cal_Mod_isAt (c_Mod_isAtS hI hL hLb (by omega) (by omega)) (Nat.le_of_ble_eq_true rfl) ⟨by rw [hB.1]; decide, by rw [hB.2]; decide⟩ ?_
        refine wp_if_eqB (tgt := 106) d_Mod_line_99 (by decide) (fun c99 => ?_) (fun c99 => ?_)
        · refine wp_iconst (v := nI 0) d_Mod_line_106 (by decide) ?_
          refine wp_iaddN d_Mod_line_107 ?_
          refine wp_istore (lv' := [(5, .int (nI (q + 0))), (4, .int (nI (p + 0))), (6, .int (nI k)), (0, .ref o), (1, .int (nI l)), (2, .int (nI a)), (3, .int (nI b))]) d_Mod_line_108 (by decide) rfl ?_
          refine wp_iinc (lv' := [(6, .int (nI (k + 1))), (5, .int (nI (q + 0))), (4, .int (nI (p + 0))), (0, .ref o), (1, .int (nI l)), (2, .int (nI a)), (3, .int (nI b))]) d_Mod_line_110 2 rfl (nI_1 _) (by decide) rfl ?_
          refine wp_goto (tgt := 56) d_Mod_line_113 (by decide) ?_
          refine wp_lv [0, 2, 1, 3, 4, 5, 6] rfl ?_
          exact ih (k + 1) (p + 0) (q + 0) (by omega) (by omega) (by rw [dg_s, c79, hp]; rfl) (by rw [dg_s, c99, hq]; rfl)
        · refine wp_iconst (v := nI 1) d_Mod_line_102 (by decide) ?_
          refine wp_goto (tgt := 107) d_Mod_line_103 (by decide) ?_
          refine wp_iaddN d_Mod_line_107 ?_
          refine wp_istore (lv' := [(5, .int (nI (q + 1))), (4, .int (nI (p + 0))), (6, .int (nI k)), (0, .ref o), (1, .int (nI l)), (2, .int (nI a)), (3, .int (nI b))]) d_Mod_line_108 (by decide) rfl ?_
          refine wp_iinc (lv' := [(6, .int (nI (k + 1))), (5, .int (nI (q + 1))), (4, .int (nI (p + 0))), (0, .ref o), (1, .int (nI l)), (2, .int (nI a)), (3, .int (nI b))]) d_Mod_line_110 2 rfl (nI_1 _) (by decide) rfl ?_
          refine wp_goto (tgt := 56) d_Mod_line_113 (by decide) ?_
          refine wp_lv [0, 2, 1, 3, 4, 5, 6] rfl ?_
          exact ih (k + 1) (p + 0) (q + 1) (by omega) (by omega) (by rw [dg_s, c79, hp]; rfl) (by rw [dg_s, c99, hq]; rfl)
      · refine wp_iconst (v := nI 1) d_Mod_line_82 (by decide) ?_
        refine wp_goto (tgt := 87) d_Mod_line_83 (by decide) ?_
        refine wp_iaddN d_Mod_line_87 ?_
        refine wp_istore (lv' := [(4, .int (nI (p + 1))), (6, .int (nI k)), (5, .int (nI q)), (0, .ref o), (1, .int (nI l)), (2, .int (nI a)), (3, .int (nI b))]) d_Mod_line_88 (by decide) rfl ?_
        refine wp_iload d_Mod_line_90 2 rfl ?_
        refine wp_aload_n d_Mod_line_92 rfl 3 rfl ?_
        refine wp_iload d_Mod_line_93 1 rfl ?_
        refine wp_iload_n d_Mod_line_95 rfl 6 rfl ?_
        refine wp_callV (r := 1) d_Mod_line_96 (link_V (as := [.int (nI k), .int (nI b)]) (rest := [.int (nI q)]) (r := (R_Mod, T_Mod, 43)) d_Mod_line_96 cal_Mod_isAt wM_Mod_126 rfl hM_o rfl) cal_Mod_isAt (c_Mod_isAtS hI hL hLb (by omega) (by omega)) (Nat.le_of_ble_eq_true rfl) ⟨by rw [hB.1]; decide, by rw [hB.2]; decide⟩ ?_
        refine wp_if_eqB (tgt := 106) d_Mod_line_99 (by decide) (fun c99 => ?_) (fun c99 => ?_)
        · refine wp_iconst (v := nI 0) d_Mod_line_106 (by decide) ?_
          refine wp_iaddN d_Mod_line_107 ?_
          refine wp_istore (lv' := [(5, .int (nI (q + 0))), (4, .int (nI (p + 1))), (6, .int (nI k)), (0, .ref o), (1, .int (nI l)), (2, .int (nI a)), (3, .int (nI b))]) d_Mod_line_108 (by decide) rfl ?_
          refine wp_iinc (lv' := [(6, .int (nI (k + 1))), (5, .int (nI (q + 0))), (4, .int (nI (p + 1))), (0, .ref o), (1, .int (nI l)), (2, .int (nI a)), (3, .int (nI b))]) d_Mod_line_110 2 rfl (nI_1 _) (by decide) rfl ?_
          refine wp_goto (tgt := 56) d_Mod_line_113 (by decide) ?_
          refine wp_lv [0, 2, 1, 3, 4, 5, 6] rfl ?_
          exact ih (k + 1) (p + 1) (q + 0) (by omega) (by omega) (by rw [dg_s, c79, hp]; rfl) (by rw [dg_s, c99, hq]; rfl)
        · refine wp_iconst (v := nI 1) d_Mod_line_102 (by decide) ?_
          refine wp_goto (tgt := 107) d_Mod_line_103 (by decide) ?_
          refine wp_iaddN d_Mod_line_107 ?_
          refine wp_istore (lv' := [(5, .int (nI (q + 1))), (4, .int (nI (p + 1))), (6, .int (nI k)), (0, .ref o), (1, .int (nI l)), (2, .int (nI a)), (3, .int (nI b))]) d_Mod_line_108 (by decide) rfl ?_
          refine wp_iinc (lv' := [(6, .int (nI (k + 1))), (5, .int (nI (q + 1))), (4, .int (nI (p + 1))), (0, .ref o), (1, .int (nI l)), (2, .int (nI a)), (3, .int (nI b))]) d_Mod_line_110 2 rfl (nI_1 _) (by decide) rfl ?_
          refine wp_goto (tgt := 56) d_Mod_line_113 (by decide) ?_
          refine wp_lv [0, 2, 1, 3, 4, 5, 6] rfl ?_
          exact ih (k + 1) (p + 1) (q + 1) (by omega) (by omega) (by rw [dg_s, c79, hp]; rfl) (by rw [dg_s, c99, hq]; rfl)
set_option maxRecDepth 20000 in
theorem c_Mod_line2 {G : Gt} {o : Nat} {A : Nat → Nat} {Fi : Nat → Int32} {M : Nat → Nat → Int32} {Ml : Nat → Nat → Int64} {s : Sa} (hI : mInj o A) (hL : RLn s (M 6) (M 7) (M 8) (M 9)) (hLb : ∀ l a b v, sLn s l = some (a, b, v) → a < 6 ∧ b < 6) {l a b : Nat} (hl : l < 8) (ha : a < 6) (hb : b < 6) (hab : a ≠ b) (hn : M 6 l = bI false) (h4 : dg s a 8 = 4 ∨ dg s b 8 = 4) : CallR G m_Mod_line 3 42 [.ref o, .int (nI l), .int (nI a), .int (nI b)] (hM o A Fi M Ml) 0 0 none (hM o A (va_up (va_up Fi 0 (nI 0)) 0 (nI 1)) M Ml) := by
  refine CallS.of (Nat.le_of_ble_eq_true rfl) ?_
  refine wp_aload_n d_Mod_line_0 rfl 0 rfl ?_
  refine wp_iload_n d_Mod_line_1 rfl 1 rfl ?_
  refine wp_iconst (v := nI 0) d_Mod_line_2 (by decide) ?_
  refine wp_bipush (v := nI 7) d_Mod_line_3 (by decide) ?_
  refine wp_callV (r := 1) d_Mod_line_5 (link_S (av := [.int (nI l), .int (nI 0), .int (nI 7)]) (rest := [.ref o]) d_Mod_line_5 cal_Mod_in wM_Mod_115 rfl) cal_Mod_in (c_Mod_inT (by omega) (by omega) (by omega)) (Nat.le_of_ble_eq_true rfl) ⟨Nat.le_of_ble_eq_true rfl, Nat.le_of_ble_eq_true rfl⟩ ?_
  refine wp_if_eqB (tgt := 43) d_Mod_line_8 (by decide) (fun c => absurd c (by decide)) (fun _ => ?_)
  refine wp_aload_n d_Mod_line_11 rfl 0 rfl ?_
  refine wm_get d_Mod_line_12 6 (by decide) wF_Mod_19 rfl ?_
  refine wp_iload_n d_Mod_line_15 rfl 1 rfl ?_
  refine wm_zld (j := 6) (x := (bI false)) d_Mod_line_16 hI (by decide) (by decide) (by show _ < 8; omega) (by decide) (hn) ?_
  refine wp_if_neB (tgt := 43) d_Mod_line_17 (by decide) (fun c => absurd c (by decide)) (fun _ => ?_)
  refine wp_iload_n d_Mod_line_20 rfl 2 rfl ?_
  refine wp_callV (r := 1) d_Mod_line_21 (link_S (av := [.int (nI a)]) (rest := [.ref o]) d_Mod_line_21 cal_Mod_isSwitch wM_Mod_123 rfl) cal_Mod_isSwitch (c_Mod_isSwitchT (by omega)) (Nat.le_of_ble_eq_true rfl) ⟨Nat.le_of_ble_eq_true rfl, Nat.le_of_ble_eq_true rfl⟩ ?_
  refine wp_if_eqB (tgt := 43) d_Mod_line_24 (by decide) (fun c => absurd c (by decide)) (fun _ => ?_)
  refine wp_iload_n d_Mod_line_27 rfl 3 rfl ?_
  refine wp_callV (r := 1) d_Mod_line_28 (link_S (av := [.int (nI b)]) (rest := [.ref o]) d_Mod_line_28 cal_Mod_isSwitch wM_Mod_123 rfl) cal_Mod_isSwitch (c_Mod_isSwitchT (by omega)) (Nat.le_of_ble_eq_true rfl) ⟨Nat.le_of_ble_eq_true rfl, Nat.le_of_ble_eq_true rfl⟩ ?_
  refine wp_if_eqB (tgt := 43) d_Mod_line_31 (by decide) (fun c => absurd c (by decide)) (fun _ => ?_)
  refine wp_iload_n d_Mod_line_34 rfl 2 rfl ?_
  refine wp_iload_n d_Mod_line_35 rfl 3 rfl ?_
  refine wp_eqN (tgt := 43) d_Mod_line_36 (by decide) (by omega) (by omega) (fun c36 => ?_) (fun c36 => ?_)
  · exact absurd c36 hab
  · refine wp_iconst (v := nI 0) d_Mod_line_39 (by decide) ?_
    refine wp_goto (tgt := 44) d_Mod_line_40 (by decide) ?_
    refine wm_put (Fi' := va_up Fi 0 (nI 0)) d_Mod_line_44 0 (by decide) wF_Mod_111 rfl (by decide) rfl ?_
    refine wp_iconst (v := nI 0) d_Mod_line_47 (by decide) ?_
    refine wp_istore (lv' := [(4, .int (nI 0)), (0, .ref o), (1, .int (nI l)), (2, .int (nI a)), (3, .int (nI b))]) d_Mod_line_48 (by decide) rfl ?_
    refine wp_iconst (v := nI 0) d_Mod_line_50 (by decide) ?_
    refine wp_istore (lv' := [(5, .int (nI 0)), (4, .int (nI 0)), (0, .ref o), (1, .int (nI l)), (2, .int (nI a)), (3, .int (nI b))]) d_Mod_line_51 (by decide) rfl ?_
    refine wp_iconst (v := nI 0) d_Mod_line_53 (by decide) ?_
    refine wp_istore (lv' := [(6, .int (nI 0)), (5, .int (nI 0)), (4, .int (nI 0)), (0, .ref o), (1, .int (nI l)), (2, .int (nI a)), (3, .int (nI b))]) d_Mod_line_54 (by decide) rfl ?_
    refine wp_lv [0, 2, 1, 3, 4, 5, 6] rfl ?_
    refine l_Mod_line (s := s) (Fi := va_up Fi 0 (nI 0)) hI hL hLb ha hb rfl ⟨by rfl, by rfl⟩ ?_ 9 0 0 0 (by omega) (by omega) rfl rfl
    have d1 := dg_le s a 8
    have d2 := dg_le s b 8
    refine wp_iload d_Mod_line_116 1 rfl ?_
    refine wp_iconst (v := nI 4) d_Mod_line_118 (by decide) ?_
    refine wp_eqN (tgt := 128) d_Mod_line_119 (by decide) (by omega) (by omega) (fun c119 => ?_) (fun c119 => ?_)
    · refine wp_aload_n d_Mod_line_128 rfl 3 rfl ?_
      refine wp_iconst (v := nI 1) d_Mod_line_129 (by decide) ?_
      refine wm_put (Fi' := va_up (va_up Fi 0 (nI 0)) 0 (nI 1)) d_Mod_line_130 0 (by decide) wF_Mod_111 rfl (by decide) rfl ?_
      refine wp_aload_n d_Mod_line_133 rfl 3 rfl ?_
      refine wm_get d_Mod_line_134 0 (by decide) wF_Mod_111 rfl ?_
      refine wp_toI (z := (nI 1)) (rfl) ?_
      refine wp_if_leN (tgt := 141) d_Mod_line_137 (by decide) (by omega) (fun c => absurd c (by decide)) (fun _ => ?_)
      exact wp_vret d_Mod_line_140 rfl ⟨rfl, rfl⟩
    · refine wp_iload d_Mod_line_122 2 rfl ?_
      refine wp_iconst (v := nI 4) d_Mod_line_124 (by decide) ?_
      refine wp_neN (tgt := 133) d_Mod_line_125 (by decide) (by omega) (by omega) (fun c125 => ?_) (fun c125 => ?_)
      · refine wp_aload_n d_Mod_line_133 rfl 3 rfl ?_
        refine wm_get d_Mod_line_134 0 (by decide) wF_Mod_111 rfl ?_
        refine wp_toI (z := (nI 0)) (rfl) ?_
        refine wp_if_leN (tgt := 141) d_Mod_line_137 (by decide) (by omega) (fun _ => ?_) (fun c => absurd c (by decide))
        exact absurd h4 (by omega)
      · refine wp_aload_n d_Mod_line_128 rfl 3 rfl ?_
        refine wp_iconst (v := nI 1) d_Mod_line_129 (by decide) ?_
        refine wm_put (Fi' := va_up (va_up Fi 0 (nI 0)) 0 (nI 1)) d_Mod_line_130 0 (by decide) wF_Mod_111 rfl (by decide) rfl ?_
        refine wp_aload_n d_Mod_line_133 rfl 3 rfl ?_
        refine wm_get d_Mod_line_134 0 (by decide) wF_Mod_111 rfl ?_
        refine wp_toI (z := (nI 1)) (rfl) ?_
        refine wp_if_leN (tgt := 141) d_Mod_line_137 (by decide) (by omega) (fun c => absurd c (by decide)) (fun _ => ?_)
        exact wp_vret d_Mod_line_140 rfl ⟨rfl, rfl⟩
set_option maxRecDepth 20000 in
theorem c_Mod_line3 {G : Gt} {o : Nat} {A : Nat → Nat} {Fi : Nat → Int32} {M : Nat → Nat → Int32} {Ml : Nat → Nat → Int64} {s : Sa} (hI : mInj o A) (hL : RLn s (M 6) (M 7) (M 8) (M 9)) (hLb : ∀ l a b v, sLn s l = some (a, b, v) → a < 6 ∧ b < 6) {l a b : Nat} (hl : l < 8) (ha : a < 6) (hb : b < 6) (hab : a ≠ b) (hn : M 6 l = bI false) (h4 : ¬ dg s a 8 = 4 ∧ ¬ dg s b 8 = 4) : CallR G m_Mod_line 3 42 [.ref o, .int (nI l), .int (nI a), .int (nI b)] (hM o A Fi M Ml) 0 0 none (hM o A (va_up Fi 0 (nI 0)) (u2 (u2 (u2 (u2 (u2 (u2 (u2 (u2 M 6 l (nI 1)) 7 l (nI a)) 8 l (nI b)) 9 l (nI 1)) 24 (2 * l) (nI 1)) 25 (2 * l) (nI 1)) 24 (2 * l + 1) (nI 1)) 25 (2 * l + 1) (nI 1)) Ml) := by
  refine CallS.of (Nat.le_of_ble_eq_true rfl) ?_
  refine wp_aload_n d_Mod_line_0 rfl 0 rfl ?_
  refine wp_iload_n d_Mod_line_1 rfl 1 rfl ?_
  refine wp_iconst (v := nI 0) d_Mod_line_2 (by decide) ?_
  refine wp_bipush (v := nI 7) d_Mod_line_3 (by decide) ?_
  refine wp_callV (r := 1) d_Mod_line_5 (link_S (av := [.int (nI l), .int (nI 0), .int (nI 7)]) (rest := [.ref o]) d_Mod_line_5 cal_Mod_in wM_Mod_115 rfl) cal_Mod_in (c_Mod_inT (by omega) (by omega) (by omega)) (Nat.le_of_ble_eq_true rfl) ⟨Nat.le_of_ble_eq_true rfl, Nat.le_of_ble_eq_true rfl⟩ ?_
  refine wp_if_eqB (tgt := 43) d_Mod_line_8 (by decide) (fun c => absurd c (by decide)) (fun _ => ?_)
  refine wp_aload_n d_Mod_line_11 rfl 0 rfl ?_
  refine wm_get d_Mod_line_12 6 (by decide) wF_Mod_19 rfl ?_
  refine wp_iload_n d_Mod_line_15 rfl 1 rfl ?_
  refine wm_zld (j := 6) (x := (bI false)) d_Mod_line_16 hI (by decide) (by decide) (by show _ < 8; omega) (by decide) (hn) ?_
  refine wp_if_neB (tgt := 43) d_Mod_line_17 (by decide) (fun c => absurd c (by decide)) (fun _ => ?_)
  refine wp_iload_n d_Mod_line_20 rfl 2 rfl ?_
  refine wp_callV (r := 1) d_Mod_line_21 (link_S (av := [.int (nI a)]) (rest := [.ref o]) d_Mod_line_21 cal_Mod_isSwitch wM_Mod_123 rfl) cal_Mod_isSwitch (c_Mod_isSwitchT (by omega)) (Nat.le_of_ble_eq_true rfl) ⟨Nat.le_of_ble_eq_true rfl, Nat.le_of_ble_eq_true rfl⟩ ?_
  refine wp_if_eqB (tgt := 43) d_Mod_line_24 (by decide) (fun c => absurd c (by decide)) (fun _ => ?_)
  refine wp_iload_n d_Mod_line_27 rfl 3 rfl ?_
  refine wp_callV (r := 1) d_Mod_line_28 (link_S (av := [.int (nI b)]) (rest := [.ref o]) d_Mod_line_28 cal_Mod_isSwitch wM_Mod_123 rfl) cal_Mod_isSwitch (c_Mod_isSwitchT (by omega)) (Nat.le_of_ble_eq_true rfl) ⟨Nat.le_of_ble_eq_true rfl, Nat.le_of_ble_eq_true rfl⟩ ?_
  refine wp_if_eqB (tgt := 43) d_Mod_line_31 (by decide) (fun c => absurd c (by decide)) (fun _ => ?_)
  refine wp_iload_n d_Mod_line_34 rfl 2 rfl ?_
  refine wp_iload_n d_Mod_line_35 rfl 3 rfl ?_
  refine wp_eqN (tgt := 43) d_Mod_line_36 (by decide) (by omega) (by omega) (fun c36 => ?_) (fun c36 => ?_)
  · exact absurd c36 hab
  · refine wp_iconst (v := nI 0) d_Mod_line_39 (by decide) ?_
    refine wp_goto (tgt := 44) d_Mod_line_40 (by decide) ?_
    refine wm_put (Fi' := va_up Fi 0 (nI 0)) d_Mod_line_44 0 (by decide) wF_Mod_111 rfl (by decide) rfl ?_
    refine wp_iconst (v := nI 0) d_Mod_line_47 (by decide) ?_
    refine wp_istore (lv' := [(4, .int (nI 0)), (0, .ref o), (1, .int (nI l)), (2, .int (nI a)), (3, .int (nI b))]) d_Mod_line_48 (by decide) rfl ?_
    refine wp_iconst (v := nI 0) d_Mod_line_50 (by decide) ?_
    refine wp_istore (lv' := [(5, .int (nI 0)), (4, .int (nI 0)), (0, .ref o), (1, .int (nI l)), (2, .int (nI a)), (3, .int (nI b))]) d_Mod_line_51 (by decide) rfl ?_
    refine wp_iconst (v := nI 0) d_Mod_line_53 (by decide) ?_
    refine wp_istore (lv' := [(6, .int (nI 0)), (5, .int (nI 0)), (4, .int (nI 0)), (0, .ref o), (1, .int (nI l)), (2, .int (nI a)), (3, .int (nI b))]) d_Mod_line_54 (by decide) rfl ?_
    refine wp_lv [0, 2, 1, 3, 4, 5, 6] rfl ?_
    refine l_Mod_line (s := s) (Fi := va_up Fi 0 (nI 0)) hI hL hLb ha hb rfl ⟨by rfl, by rfl⟩ ?_ 9 0 0 0 (by omega) (by omega) rfl rfl
    have d1 := dg_le s a 8
    have d2 := dg_le s b 8
    refine wp_iload d_Mod_line_116 1 rfl ?_
    refine wp_iconst (v := nI 4) d_Mod_line_118 (by decide) ?_
    refine wp_eqN (tgt := 128) d_Mod_line_119 (by decide) (by omega) (by omega) (fun c119 => ?_) (fun c119 => ?_)
    · first | exact absurd c119 h4.1 | exact absurd c125 h4.2
    · refine wp_iload d_Mod_line_122 2 rfl ?_
      refine wp_iconst (v := nI 4) d_Mod_line_124 (by decide) ?_
      refine wp_neN (tgt := 133) d_Mod_line_125 (by decide) (by omega) (by omega) (fun c125 => ?_) (fun c125 => ?_)
      · refine wp_aload_n d_Mod_line_133 rfl 3 rfl ?_
        refine wm_get d_Mod_line_134 0 (by decide) wF_Mod_111 rfl ?_
        refine wp_toI (z := (nI 0)) (rfl) ?_
        refine wp_if_leN (tgt := 141) d_Mod_line_137 (by decide) (by omega) (fun _ => ?_) (fun c => absurd c (by decide))
        refine wp_aload_n d_Mod_line_141 rfl 3 rfl ?_
        refine wm_get d_Mod_line_142 6 (by decide) wF_Mod_19 rfl ?_
        refine wp_iload_n d_Mod_line_145 rfl 4 rfl ?_
        refine wp_iconst (v := nI 1) d_Mod_line_146 (by decide) ?_
        refine wm_zst (j := 6) (z := nI 1) d_Mod_line_147 hI (by decide) (by decide) (by show _ < 8; omega) (by decide) (by first | rfl | decide | exact narB _) ?_
        refine wp_aload_n d_Mod_line_148 rfl 3 rfl ?_
        refine wm_get d_Mod_line_149 7 (by decide) wF_Mod_23 rfl ?_
        refine wp_iload_n d_Mod_line_152 rfl 4 rfl ?_
        refine wp_iload_n d_Mod_line_153 rfl 5 rfl ?_
        refine wm_ist (j := 7) d_Mod_line_154 hI (by decide) (by decide) (by show _ < 8; omega) (by decide) ?_
        refine wp_aload_n d_Mod_line_155 rfl 3 rfl ?_
        refine wm_get d_Mod_line_156 8 (by decide) wF_Mod_26 rfl ?_
        refine wp_iload_n d_Mod_line_159 rfl 4 rfl ?_
        refine wp_iload_n d_Mod_line_160 rfl 6 rfl ?_
        refine wm_ist (j := 8) d_Mod_line_161 hI (by decide) (by decide) (by show _ < 8; omega) (by decide) ?_
        refine wp_aload_n d_Mod_line_162 rfl 3 rfl ?_
        refine wm_get d_Mod_line_163 9 (by decide) wF_Mod_29 rfl ?_
        refine wp_iload_n d_Mod_line_166 rfl 4 rfl ?_
        refine wp_iconst (v := nI 1) d_Mod_line_167 (by decide) ?_
        refine wm_zst (j := 9) (z := nI 1) d_Mod_line_168 hI (by decide) (by decide) (by show _ < 8; omega) (by decide) (by first | rfl | decide | exact narB _) ?_
        refine wp_iconst (v := nI 2) d_Mod_line_169 (by decide) ?_
        refine wp_iload_n d_Mod_line_170 rfl 4 rfl ?_
        refine wp_imulN d_Mod_line_171 ?_
        refine wp_istore (lv' := [(6, .int (nI (2 * l))), (4, .int (nI (dg s a 8))), (5, .int (nI (dg s b 8))), (0, .ref o), (1, .int (nI l)), (2, .int (nI a)), (3, .int (nI b))]) d_Mod_line_172 (by decide) rfl ?_
        refine wp_iload d_Mod_line_174 0 rfl ?_
        refine wp_iconst (v := nI 2) d_Mod_line_176 (by decide) ?_
        refine wp_iload_n d_Mod_line_177 rfl 4 rfl ?_
        refine wp_imulN d_Mod_line_178 ?_
        refine wp_iconst (v := nI 2) d_Mod_line_179 (by decide) ?_
        refine wp_iaddN d_Mod_line_180 ?_
        refine wp_geN (tgt := 206) d_Mod_line_181 (by decide) (by omega) (by omega) (fun c181 => ?_) (fun c181 => ?_)
        · exact absurd c181 (by omega)
        · refine wp_aload_n d_Mod_line_184 rfl 3 rfl ?_
          refine wm_get d_Mod_line_185 24 (by decide) wF_Mod_69 rfl ?_
          refine wp_iload d_Mod_line_188 0 rfl ?_
          refine wp_iconst (v := nI 1) d_Mod_line_190 (by decide) ?_
          refine wm_ist (j := 24) d_Mod_line_191 hI (by decide) (by decide) (by show _ < 16; omega) (by decide) ?_
          refine wp_aload_n d_Mod_line_192 rfl 3 rfl ?_
          refine wm_get d_Mod_line_193 25 (by decide) wF_Mod_72 rfl ?_
          refine wp_iload d_Mod_line_196 0 rfl ?_
          refine wp_iconst (v := nI 1) d_Mod_line_198 (by decide) ?_
          refine wm_ist (j := 25) d_Mod_line_199 hI (by decide) (by decide) (by show _ < 16; omega) (by decide) ?_
          refine wp_iinc (lv' := [(6, .int (nI (2 * l + 1))), (4, .int (nI (dg s a 8))), (5, .int (nI (dg s b 8))), (0, .ref o), (1, .int (nI l)), (2, .int (nI a)), (3, .int (nI b))]) d_Mod_line_200 0 rfl (nI_1 _) (by decide) rfl ?_
          refine wp_goto (tgt := 174) d_Mod_line_203 (by decide) ?_
          refine wp_iload d_Mod_line_174 0 rfl ?_
          refine wp_iconst (v := nI 2) d_Mod_line_176 (by decide) ?_
          refine wp_iload_n d_Mod_line_177 rfl 4 rfl ?_
          refine wp_imulN d_Mod_line_178 ?_
          refine wp_iconst (v := nI 2) d_Mod_line_179 (by decide) ?_
          refine wp_iaddN d_Mod_line_180 ?_
          refine wp_geN (tgt := 206) d_Mod_line_181 (by decide) (by omega) (by omega) (fun c181 => ?_) (fun c181 => ?_)
          · exact absurd c181 (by omega)
          · refine wp_aload_n d_Mod_line_184 rfl 3 rfl ?_
            refine wm_get d_Mod_line_185 24 (by decide) wF_Mod_69 rfl ?_
            refine wp_iload d_Mod_line_188 0 rfl ?_
            refine wp_iconst (v := nI 1) d_Mod_line_190 (by decide) ?_
            refine wm_ist (j := 24) d_Mod_line_191 hI (by decide) (by decide) (by show _ < 16; omega) (by decide) ?_
            refine wp_aload_n d_Mod_line_192 rfl 3 rfl ?_
            refine wm_get d_Mod_line_193 25 (by decide) wF_Mod_72 rfl ?_
            refine wp_iload d_Mod_line_196 0 rfl ?_
            refine wp_iconst (v := nI 1) d_Mod_line_198 (by decide) ?_
            refine wm_ist (j := 25) d_Mod_line_199 hI (by decide) (by decide) (by show _ < 16; omega) (by decide) ?_
            refine wp_iinc (lv' := [(6, .int (nI (2 * l + 1 + 1))), (4, .int (nI (dg s a 8))), (5, .int (nI (dg s b 8))), (0, .ref o), (1, .int (nI l)), (2, .int (nI a)), (3, .int (nI b))]) d_Mod_line_200 0 rfl (nI_1 _) (by decide) rfl ?_
            refine wp_goto (tgt := 174) d_Mod_line_203 (by decide) ?_
            refine wp_iload d_Mod_line_174 0 rfl ?_
            refine wp_iconst (v := nI 2) d_Mod_line_176 (by decide) ?_
            refine wp_iload_n d_Mod_line_177 rfl 4 rfl ?_
            refine wp_imulN d_Mod_line_178 ?_
            refine wp_iconst (v := nI 2) d_Mod_line_179 (by decide) ?_
            refine wp_iaddN d_Mod_line_180 ?_
            refine wp_geN (tgt := 206) d_Mod_line_181 (by decide) (by omega) (by omega) (fun c181 => ?_) (fun c181 => ?_)
            · exact wp_vret d_Mod_line_206 rfl ⟨rfl, rfl⟩
            · exact absurd c181 (by omega)
      · first | exact absurd c119 h4.1 | exact absurd c125 h4.2
theorem c_Mod_line {G : Gt} {o : Nat} {A : Nat → Nat} {Fi : Nat → Int32} {M : Nat → Nat → Int32} {Ml : Nat → Nat → Int64} {s : Sa} {n : Nat} (hI : mInj o A) (hR : RepM s Fi M Ml) (hV : Inv n s) (x a b : Int32) : CallE G m_Mod_line 3 42 [.ref o, .int x, .int a, .int b] (hM o A Fi M Ml) 0 0 none (RefOK o A (stLine s x a b)) := by
  have hLb : ∀ l a b v, sLn s l = some (a, b, v) → a < 6 ∧ b < 6 := fun l a b v h => ⟨(hV.2.1.2.2.2.1 l a b v h).2.1, (hV.2.1.2.2.2.1 l a b v h).2.2.1⟩
  cases hx : inZ x (nI 0) (nI 7) with
  | false =>
    rw [show stLine s x a b = (1, 0, s) by unfold stLine; rw [hx]; rfl]
    exact CallR.E (CallR.up (c_Mod_line0 hx) (by decide) (by decide)) ⟨_, _, _, rfl, hR, rfl⟩
  | true =>
    obtain ⟨l, hl, rfl⟩ := inZ_of (by decide) hx
    have e0 : stLine s (nI l) a b = if ((!(lnB s l) && swB a && swB b && !(decide (a = b))) && (!(degree s (nN a) == 4) && !(degree s (nN b) == 4))) = true then (0, 0, wLn s (va_up (sLn s) l (some (nN a, nN b, true)))) else (1, 0, s) := by
      unfold stLine
      rw [hx, nN_nI (by omega)]
      simp only [Bool.true_and, Bool.and_assoc]
    cases hy : (!(lnB s l) && swB a && swB b && !(decide (a = b))) with
    | false =>
      rw [e0, hy, Bool.false_and, if_neg (by decide)]
      exact CallR.E (CallR.up (c_Mod_line1 hI hR.ln (by omega) hy) (by decide) (by decide)) ⟨_, _, _, rfl, hR, rfl⟩
    | true =>
      rw [e0, hy, Bool.true_and]
      simp only [Bool.and_eq_true, Bool.not_eq_true', decide_eq_false_iff_not] at hy
      obtain ⟨⟨⟨h1, h2⟩, h3⟩, h4⟩ := hy
      obtain ⟨a, ha, rfl⟩ := swB_of h2
      obtain ⟨b, hb, rfl⟩ := swB_of h3
      have hab : a ≠ b := fun q => h4 (by rw [q])
      rw [nN_nI (by omega), nN_nI (by omega)]
      have hno : sLn s l = none := by
        cases hc : sLn s l with
        | none => rfl
        | some r => unfold lnB at h1; rw [hc] at h1; cases h1
      have hn : M 6 l = bI false := by rw [(hR.ln l (by omega)).1, hno]; rfl
      by_cases h5 : dg s a 8 = 4 ∨ dg s b 8 = 4
      · rw [if_neg (show ¬ (!(degree s a == 4) && !(degree s b == 4)) = true by
          show ¬ (!(dg s a 8 == 4) && !(dg s b 8 == 4)) = true
          simp
          omega)]
        exact CallR.E (CallR.up (c_Mod_line2 hI hR.ln hLb (by omega) ha hb hab hn h5) (by decide) (by decide)) ⟨_, _, _, rfl, hR, rfl⟩
      · rw [if_pos (show (!(degree s a == 4) && !(degree s b == 4)) = true by
          show (!(dg s a 8 == 4) && !(dg s b 8 == 4)) = true
          simp
          omega)]
        refine CallR.E (CallR.up (c_Mod_line3 hI hR.ln hLb (by omega) ha hb hab hn ⟨fun q => h5 (Or.inl q), fun q => h5 (Or.inr q)⟩) (by decide) (by decide)) ⟨_, _, _, rfl, ?_, rfl⟩
        obtain ⟨r1, r2, r3, r4, r5, r6, r7, r8, r9, r10, r11⟩ := hR
        refine ⟨r1, r2, fun i hi => ?_, r4, r5, r6, r7, fun c hc => ?_, r9, r10, r11⟩
        · have h6 := r3 i hi
          show upd (M 6) l (nI 1) i = bI (va_up (sLn s) l (some (a, b, true)) i).isSome ∧ upd (M 9) l (nI 1) i = bI (serves (wLn s (va_up (sLn s) l (some (a, b, true)))) i) ∧ ∀ a1 b1 v, va_up (sLn s) l (some (a, b, true)) i = some (a1, b1, v) → upd (M 7) l (nI a) i = nI a1 ∧ upd (M 8) l (nI b) i = nI b1
          by_cases hil : i = l
          · subst hil
            refine ⟨by simp [upd, va_up]; rfl, by rw [serves_wLn]; simp [upd, va_up]; rfl, fun a1 b1 v q => ?_⟩
            simp [va_up] at q
            simp [upd, q.1, q.2.1]
          · simp only [upd, va_up, serves, sLn, hil, if_false]
            exact h6
        · have h7 := r8 c hc
          obtain ⟨q1, q2, q3, q4, q5, q6, q7⟩ := h7
          refine ⟨fun hb1 => ?_, q2, q3, q4, q5, q6, q7⟩
          show upd (upd (M 24) (2 * l) (nI 1)) (2 * l + 1) (nI 1) c = nI ((cSent (sCh s c)).length + 1) ∧ upd (upd (M 25) (2 * l) (nI 1)) (2 * l + 1) (nI 1) c = nI (cExp (sCh s c))
          have hb2 : (va_up (sLn s) l (some (a, b, true)) (c / 2)).isSome = true := hb1
          by_cases hcl : c / 2 = l
          · have h0 := (hV.2.2.1.2.2.2.1 c).2.2.2.2.2.2.2.2.2.2.2 (by rw [hcl]; exact hno)
            rw [h0]
            have : c = 2 * l ∨ c = 2 * l + 1 := by omega
            rcases this with rfl | rfl <;> simp [upd, ch0] <;> rfl
          · rw [show va_up (sLn s) l (some (a, b, true)) (c / 2) = sLn s (c / 2) by simp [va_up, hcl]] at hb2
            have h8 := q1 hb2
            simp only [upd]
            rw [if_neg (by omega), if_neg (by omega), if_neg (by omega), if_neg (by omega)]
            exact h8
end Mod19
