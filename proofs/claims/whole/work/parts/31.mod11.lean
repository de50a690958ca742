section Mod11
/-- in array j the places b .. e - 1 each have what stood behind them -/
def shL (M : Nat → Nat → Int32) (j b e : Nat) : Nat → Nat → Int32 := va_up M j (fun q => if b ≤ q ∧ q < e then M j (q + 1) else M j q)
theorem shL_ne (M : Nat → Nat → Int32) {j b e a : Nat} (h : a ≠ j) : shL M j b e a = M a := by
  unfold shL va_up
  rw [if_neg h]
theorem shL_at (M : Nat → Nat → Int32) (j b e q : Nat) : shL M j b e j q = if b ≤ q ∧ q < e then M j (q + 1) else M j q := by
  simp [shL, va_up]
theorem shL_0 (M : Nat → Nat → Int32) (j b : Nat) : shL M j b b = M := by
  funext a q
  by_cases h : a = j
  · subst h
    rw [shL_at, if_neg (by omega)]
  · rw [shL_ne M h]
theorem shL_s (M : Nat → Nat → Int32) {j b e : Nat} (h : b ≤ e) : u2 (shL M j b e) j e (M j (e + 1)) = shL M j b (e + 1) := by
  funext a q
  by_cases ha : a = j
  · subst ha
    rw [u2_at, shL_at, shL_at]
    by_cases hq : q = e
    · subst hq
      rw [if_pos rfl, if_pos (by omega)]
    · rw [if_neg hq]
      by_cases h1 : b ≤ q ∧ q < e
      · rw [if_pos h1, if_pos (by omega)]
      · rw [if_neg h1, if_neg (by omega)]
  · rw [u2_ne _ _ ha, shL_ne _ ha, shL_ne _ ha]
set_option maxRecDepth 20000 in
theorem c_Mod_goes {G : Gt} {o : Nat} {A : Nat → Nat} {Fi : Nat → Int32} {M : Nat → Nat → Int32} {Ml : Nat → Nat → Int64} (hI : mInj o A) {k n : Nat} (hn : Fi 22 = nI n) (hn2 : n ≤ 2000) (hk : k < n) : CallR G m_Mod_goes 0 0 [.ref o, .int (nI k)] (hM o A Fi M Ml) 0 0 none (hM o A (va_up Fi 22 (nI (n - 1))) (shL M 23 k (n - 1)) Ml) := by
  refine CallS.of (Nat.le_of_ble_eq_true rfl) ?_
  have L2 : ∀ (f i : Nat) (X : Nat → Nat → Int32), n - i < f → k ≤ i → i + 1 ≤ n → X = shL M 23 k i → WP G m_Mod_goes (0, 0, 0, 0, (hM o A Fi M Ml), fun r9 h9 => r9 = .inl none ∧ h9 = (hM o A (va_up Fi 22 (nI (n - 1))) (shL M 23 k (n - 1)) Ml)) 2 [(2, .int (nI i)), (0, .ref o), (1, .int (nI k))] [] (hM o A Fi X Ml) 0 0 := by
    intro f
    induction f with
    | zero =>
      intro i X h1
      omega
    | succ f ih =>
      intro i X hf hki hin hX
      refine wp_iload_n d_Mod_goes_2 rfl 0 rfl ?_
      refine wp_iconst (v := nI 1) d_Mod_goes_3 (by decide) ?_
      refine wp_iaddN d_Mod_goes_4 ?_
      refine wp_aload_n d_Mod_goes_5 rfl 1 rfl ?_
      refine wm_get d_Mod_goes_6 22 (by decide) wF_Mod_202 rfl ?_
      refine wp_toI (z := (nI n)) (hn) ?_
      refine wp_geN (tgt := 32) d_Mod_goes_9 (by decide) (by omega) (by omega) (fun c9 => ?_) (fun c9 => ?_)
      · refine wp_aload_n d_Mod_goes_32 rfl 1 rfl ?_
        refine wp_dup d_Mod_goes_33 rfl ?_
        refine wm_get d_Mod_goes_34 22 (by decide) wF_Mod_202 rfl ?_
        refine wp_toI (z := (nI n)) (hn) ?_
        refine wp_iconst (v := nI 1) d_Mod_goes_37 (by decide) ?_
        refine wp_isubN d_Mod_goes_38 (by omega) ?_
        refine wm_put (Fi' := va_up Fi 22 (nI (n - 1))) d_Mod_goes_39 22 (by decide) wF_Mod_202 rfl (by decide) rfl ?_
        exact wp_vret d_Mod_goes_42 rfl ⟨rfl, by rw [hX, show i = n - 1 by omega]⟩
      · refine wp_aload_n d_Mod_goes_12 rfl 1 rfl ?_
        refine wm_get d_Mod_goes_13 23 (by decide) wF_Mod_66 rfl ?_
        refine wp_iload_n d_Mod_goes_16 rfl 0 rfl ?_
        refine wp_aload_n d_Mod_goes_17 rfl 1 rfl ?_
        refine wm_get d_Mod_goes_18 23 (by decide) wF_Mod_66 rfl ?_
        refine wp_iload_n d_Mod_goes_21 rfl 0 rfl ?_
        refine wp_iconst (v := nI 1) d_Mod_goes_22 (by decide) ?_
        refine wp_iaddN d_Mod_goes_23 ?_
        refine wm_ild (j := 23) (x := (M 23 (i + 1))) d_Mod_goes_24 hI (by decide) (by decide) (by show _ < 2000; omega) (by decide) (by rw [hX, shL_at, if_neg (by omega)]) ?_
        refine wm_ist (j := 23) d_Mod_goes_25 hI (by decide) (by decide) (by show _ < 2000; omega) (by decide) ?_
        refine wp_iinc (lv' := [(2, .int (nI (i + 1))), (0, .ref o), (1, .int (nI k))]) d_Mod_goes_26 0 rfl (nI_1 _) (by decide) rfl ?_
        refine wp_goto (tgt := 2) d_Mod_goes_29 (by decide) ?_
        exact ih (i + 1) _ (by omega) (by omega) (by omega) (by rw [hX, shL_s M (by omega)])
  refine wp_iload_n d_Mod_goes_0 rfl 1 rfl ?_
  refine wp_istore_n (lv' := [(2, .int (nI k)), (0, .ref o), (1, .int (nI k))]) d_Mod_goes_1 rfl (by decide) rfl ?_
  exact L2 (n + 1) k M (by omega) (by omega) (by omega) (shL_0 M 23 k).symm
set_option maxRecDepth 20000 in
theorem c_Mod_takeFrame {G : Gt} {o : Nat} {A : Nat → Nat} {Fi : Nat → Int32} {M : Nat → Nat → Int32} {Ml : Nat → Nat → Int64} (hI : mInj o A) {c n : Nat} (hc : c < 16) (hn : M 28 c = nI n) (hn2 : n ≤ 200) (hn1 : 0 < n) : CallR G m_Mod_takeFrame 0 0 [.ref o, .int (nI c)] (hM o A Fi M Ml) 0 0 none (hM o A Fi (u2 (shL M 29 (200 * c) (200 * c + (n - 1))) 28 c (nI (n - 1))) Ml) := by
  refine CallS.of (Nat.le_of_ble_eq_true rfl) ?_
  have L2 : ∀ (f i : Nat) (X : Nat → Nat → Int32), n - i < f → i + 1 ≤ n → X = shL M 29 (200 * c) (200 * c + i) → WP G m_Mod_takeFrame (0, 0, 0, 0, (hM o A Fi M Ml), fun r9 h9 => r9 = .inl none ∧ h9 = (hM o A Fi (u2 (shL M 29 (200 * c) (200 * c + (n - 1))) 28 c (nI (n - 1))) Ml)) 2 [(2, .int (nI i)), (0, .ref o), (1, .int (nI c))] [] (hM o A Fi X Ml) 0 0 := by
    intro f
    induction f with
    | zero =>
      intro i X h1
      omega
    | succ f ih =>
      intro i X hf hin hX
      refine wp_iload_n d_Mod_takeFrame_2 rfl 0 rfl ?_
      refine wp_iconst (v := nI 1) d_Mod_takeFrame_3 (by decide) ?_
      refine wp_iaddN d_Mod_takeFrame_4 ?_
      refine wp_aload_n d_Mod_takeFrame_5 rfl 1 rfl ?_
      refine wm_get d_Mod_takeFrame_6 28 (by decide) wF_Mod_81 rfl ?_
      refine wp_iload_n d_Mod_takeFrame_9 rfl 2 rfl ?_
      refine wm_ild (j := 28) (x := (nI n)) d_Mod_takeFrame_10 hI (by decide) (by decide) (by show _ < 16; omega) (by decide) (by rw [hX, shL_ne _ (by decide)]; exact hn) ?_
      refine wp_geN (tgt := 46) d_Mod_takeFrame_11 (by decide) (by omega) (by omega) (fun c11 => ?_) (fun c11 => ?_)
      · refine wp_aload_n d_Mod_takeFrame_46 rfl 1 rfl ?_
        refine wm_get d_Mod_takeFrame_47 28 (by decide) wF_Mod_81 rfl ?_
        refine wp_iload_n d_Mod_takeFrame_50 rfl 2 rfl ?_
        refine wp_dup2 d_Mod_takeFrame_51 rfl rfl ?_
        refine wm_ild (j := 28) (x := (nI n)) d_Mod_takeFrame_52 hI (by decide) (by decide) (by show _ < 16; omega) (by decide) (by rw [hX, shL_ne _ (by decide)]; exact hn) ?_
        refine wp_iconst (v := nI 1) d_Mod_takeFrame_53 (by decide) ?_
        refine wp_isubN d_Mod_takeFrame_54 (by omega) ?_
        refine wm_ist (j := 28) d_Mod_takeFrame_55 hI (by decide) (by decide) (by show _ < 16; omega) (by decide) ?_
        exact wp_vret d_Mod_takeFrame_56 rfl ⟨rfl, by rw [hX, show i = n - 1 by omega]⟩
      · refine wp_aload_n d_Mod_takeFrame_14 rfl 1 rfl ?_
        refine wm_get d_Mod_takeFrame_15 29 (by decide) wF_Mod_84 rfl ?_
        refine wp_sipush (v := nI 200) d_Mod_takeFrame_18 (by decide) ?_
        refine wp_iload_n d_Mod_takeFrame_21 rfl 2 rfl ?_
        refine wp_imulN d_Mod_takeFrame_22 ?_
        refine wp_iload_n d_Mod_takeFrame_23 rfl 0 rfl ?_
        refine wp_iaddN d_Mod_takeFrame_24 ?_
        refine wp_aload_n d_Mod_takeFrame_25 rfl 1 rfl ?_
        refine wm_get d_Mod_takeFrame_26 29 (by decide) wF_Mod_84 rfl ?_
        refine wp_sipush (v := nI 200) d_Mod_takeFrame_29 (by decide) ?_
        refine wp_iload_n d_Mod_takeFrame_32 rfl 2 rfl ?_
        refine wp_imulN d_Mod_takeFrame_33 ?_
        refine wp_iload_n d_Mod_takeFrame_34 rfl 0 rfl ?_
        refine wp_iaddN d_Mod_takeFrame_35 ?_
        refine wp_iconst (v := nI 1) d_Mod_takeFrame_36 (by decide) ?_
        refine wp_iaddN d_Mod_takeFrame_37 ?_
        refine wm_ild (j := 29) (x := (M 29 (((200 * c) + i) + 1))) d_Mod_takeFrame_38 hI (by decide) (by decide) (by show _ < 3200; omega) (by decide) (by rw [hX, shL_at, if_neg (by omega)]) ?_
        refine wm_ist (j := 29) d_Mod_takeFrame_39 hI (by decide) (by decide) (by show _ < 3200; omega) (by decide) ?_
        refine wp_iinc (lv' := [(2, .int (nI (i + 1))), (0, .ref o), (1, .int (nI c))]) d_Mod_takeFrame_40 0 rfl (nI_1 _) (by decide) rfl ?_
        refine wp_goto (tgt := 2) d_Mod_takeFrame_43 (by decide) ?_
        exact ih (i + 1) _ (by omega) (by omega) (by rw [hX, shL_s M (by omega)]; rfl)
  refine wp_iconst (v := nI 0) d_Mod_takeFrame_0 (by decide) ?_
  refine wp_istore_n (lv' := [(2, .int (nI 0)), (0, .ref o), (1, .int (nI c))]) d_Mod_takeFrame_1 rfl (by decide) rfl ?_
  exact L2 (n + 1) 0 M (by omega) (by omega) (shL_0 M 29 (200 * c)).symm
set_option maxRecDepth 20000 in
theorem c_Mod_free {G : Gt} {o : Nat} {A : Nat → Nat} {Fi : Nat → Int32} {M : Nat → Nat → Int32} {Ml : Nat → Nat → Int64} (hI : mInj o A) {c n : Nat} (hc : c < 16) (hn : M 26 c = nI n) (hn2 : n ≤ 20) (hn1 : 0 < n) : CallR G m_Mod_free 0 0 [.ref o, .int (nI c)] (hM o A Fi M Ml) 0 0 none (hM o A Fi (u2 (shL M 27 (20 * c) (20 * c + (n - 1))) 26 c (nI (n - 1))) Ml) := by
  refine CallS.of (Nat.le_of_ble_eq_true rfl) ?_
  have L2 : ∀ (f i : Nat) (X : Nat → Nat → Int32), n - i < f → i + 1 ≤ n → X = shL M 27 (20 * c) (20 * c + i) → WP G m_Mod_free (0, 0, 0, 0, (hM o A Fi M Ml), fun r9 h9 => r9 = .inl none ∧ h9 = (hM o A Fi (u2 (shL M 27 (20 * c) (20 * c + (n - 1))) 26 c (nI (n - 1))) Ml)) 2 [(2, .int (nI i)), (0, .ref o), (1, .int (nI c))] [] (hM o A Fi X Ml) 0 0 := by
    intro f
    induction f with
    | zero =>
      intro i X h1
      omega
    | succ f ih =>
      intro i X hf hin hX
      refine wp_iload_n d_Mod_free_2 rfl 0 rfl ?_
      refine wp_iconst (v := nI 1) d_Mod_free_3 (by decide) ?_
      refine wp_iaddN d_Mod_free_4 ?_
      refine wp_aload_n d_Mod_free_5 rfl 1 rfl ?_
      refine wm_get d_Mod_free_6 26 (by decide) wF_Mod_75 rfl ?_
      refine wp_iload_n d_Mod_free_9 rfl 2 rfl ?_
      refine wm_ild (j := 26) (x := (nI n)) d_Mod_free_10 hI (by decide) (by decide) (by show _ < 16; omega) (by decide) (by rw [hX, shL_ne _ (by decide)]; exact hn) ?_
      refine wp_geN (tgt := 44) d_Mod_free_11 (by decide) (by omega) (by omega) (fun c11 => ?_) (fun c11 => ?_)
      · refine wp_aload_n d_Mod_free_44 rfl 1 rfl ?_
        refine wm_get d_Mod_free_45 26 (by decide) wF_Mod_75 rfl ?_
        refine wp_iload_n d_Mod_free_48 rfl 2 rfl ?_
        refine wp_dup2 d_Mod_free_49 rfl rfl ?_
        refine wm_ild (j := 26) (x := (nI n)) d_Mod_free_50 hI (by decide) (by decide) (by show _ < 16; omega) (by decide) (by rw [hX, shL_ne _ (by decide)]; exact hn) ?_
        refine wp_iconst (v := nI 1) d_Mod_free_51 (by decide) ?_
        refine wp_isubN d_Mod_free_52 (by omega) ?_
        refine wm_ist (j := 26) d_Mod_free_53 hI (by decide) (by decide) (by show _ < 16; omega) (by decide) ?_
        exact wp_vret d_Mod_free_54 rfl ⟨rfl, by rw [hX, show i = n - 1 by omega]⟩
      · refine wp_aload_n d_Mod_free_14 rfl 1 rfl ?_
        refine wm_get d_Mod_free_15 27 (by decide) wF_Mod_78 rfl ?_
        refine wp_bipush (v := nI 20) d_Mod_free_18 (by decide) ?_
        refine wp_iload_n d_Mod_free_20 rfl 2 rfl ?_
        refine wp_imulN d_Mod_free_21 ?_
        refine wp_iload_n d_Mod_free_22 rfl 0 rfl ?_
        refine wp_iaddN d_Mod_free_23 ?_
        refine wp_aload_n d_Mod_free_24 rfl 1 rfl ?_
        refine wm_get d_Mod_free_25 27 (by decide) wF_Mod_78 rfl ?_
        refine wp_bipush (v := nI 20) d_Mod_free_28 (by decide) ?_
        refine wp_iload_n d_Mod_free_30 rfl 2 rfl ?_
        refine wp_imulN d_Mod_free_31 ?_
        refine wp_iload_n d_Mod_free_32 rfl 0 rfl ?_
        refine wp_iaddN d_Mod_free_33 ?_
        refine wp_iconst (v := nI 1) d_Mod_free_34 (by decide) ?_
        refine wp_iaddN d_Mod_free_35 ?_
        refine wm_ild (j := 27) (x := (M 27 (((20 * c) + i) + 1))) d_Mod_free_36 hI (by decide) (by decide) (by show _ < 320; omega) (by decide) (by rw [hX, shL_at, if_neg (by omega)]) ?_
        refine wm_ist (j := 27) d_Mod_free_37 hI (by decide) (by decide) (by show _ < 320; omega) (by decide) ?_
        refine wp_iinc (lv' := [(2, .int (nI (i + 1))), (0, .ref o), (1, .int (nI c))]) d_Mod_free_38 0 rfl (nI_1 _) (by decide) rfl ?_
        refine wp_goto (tgt := 2) d_Mod_free_41 (by decide) ?_
        exact ih (i + 1) _ (by omega) (by omega) (by rw [hX, shL_s M (by omega)]; rfl)
  refine wp_iconst (v := nI 0) d_Mod_free_0 (by decide) ?_
  refine wp_istore_n (lv' := [(2, .int (nI 0)), (0, .ref o), (1, .int (nI c))]) d_Mod_free_1 rfl (by decide) rfl ?_
  exact L2 (n + 1) 0 M (by omega) (by omega) (shL_0 M 27 (20 * c)).symm
set_option maxRecDepth 20000 in
theorem c_Mod_layKept {G : Gt} {o : Nat} {A : Nat → Nat} {Fi : Nat → Int32} {M : Nat → Nat → Int32} {Ml : Nat → Nat → Int64} (hI : mInj o A) {c k n sn km e mi : Nat} (hc : c < 16) (hn : M 28 c = nI n) (hn2 : n ≤ 200) (hsn : M 24 c = nI (sn + 1)) (hsn2 : sn < 999) (hkm : M 26 c = nI km) (hkm2 : km ≤ 20 ∧ km ≤ sn) (hk : k < km) (he : M 27 (20 * c + k) = nI e) (he2 : e < 2 ^ 16) (hmi : Fi 1 = nI mi) : CallR G m_Mod_layKept 1 17 [.ref o, .int (nI c), .int (nI k)] (hM o A Fi M Ml) 0 0 none (hM o A Fi (u2 (layM M c n (encK 0 (sn - km + k + 1) (e / 2 ^ 8) (e % 2 ^ 8))) 30 c (nI mi)) Ml) := by
  refine CallS.of (Nat.le_of_ble_eq_true rfl) ?_
  refine wp_aload_n d_Mod_layKept_0 rfl 0 rfl ?_
  refine wm_get d_Mod_layKept_1 24 (by decide) wF_Mod_69 rfl ?_
  refine wp_iload_n d_Mod_layKept_4 rfl 1 rfl ?_
  refine wm_ild (j := 24) (x := (nI (sn + 1))) d_Mod_layKept_5 hI (by decide) (by decide) (by show _ < 16; omega) (by decide) (hsn) ?_
  refine wp_iconst (v := nI 1) d_Mod_layKept_6 (by decide) ?_
  refine wp_isubN d_Mod_layKept_7 (by omega) ?_
  refine wp_aload_n d_Mod_layKept_8 rfl 0 rfl ?_
  refine wm_get d_Mod_layKept_9 26 (by decide) wF_Mod_75 rfl ?_
  refine wp_iload_n d_Mod_layKept_12 rfl 1 rfl ?_
  refine wm_ild (j := 26) (x := (nI km)) d_Mod_layKept_13 hI (by decide) (by decide) (by show _ < 16; omega) (by decide) (hkm) ?_
  refine wp_isubN d_Mod_layKept_14 (by omega) ?_
  refine wp_iload_n d_Mod_layKept_15 rfl 2 rfl ?_
  refine wp_iaddN d_Mod_layKept_16 ?_
  refine wp_sipush (v := nI 999) d_Mod_layKept_17 (by decide) ?_
  refine wp_iaddN d_Mod_layKept_20 ?_
  refine wp_sipush (v := nI 999) d_Mod_layKept_21 (by decide) ?_
  refine wp_iremN d_Mod_layKept_24 (by omega) (by omega) (by omega) ?_
  refine wp_iconst (v := nI 1) d_Mod_layKept_25 (by decide) ?_
  refine wp_iaddN d_Mod_layKept_26 ?_
  refine wp_toI (z := (nI (sn - km + k + 1))) (congrArg nI (by omega)) ?_
  refine wp_istore_n (lv' := [(3, .int (nI (sn - km + k + 1))), (0, .ref o), (1, .int (nI c)), (2, .int (nI k))]) d_Mod_layKept_27 rfl (by decide) rfl ?_
  refine wp_aload_n d_Mod_layKept_28 rfl 1 rfl ?_
  refine wp_iload_n d_Mod_layKept_29 rfl 2 rfl ?_
  refine wp_iconst (v := nI 0) d_Mod_layKept_30 (by decide) ?_
  refine wp_iload_n d_Mod_layKept_31 rfl 0 rfl ?_
  refine wp_aload_n d_Mod_layKept_32 rfl 1 rfl ?_
  refine wm_get d_Mod_layKept_33 27 (by decide) wF_Mod_78 rfl ?_
  refine wp_bipush (v := nI 20) d_Mod_layKept_36 (by decide) ?_
  refine wp_iload_n d_Mod_layKept_38 rfl 2 rfl ?_
  refine wp_imulN d_Mod_layKept_39 ?_
  refine wp_iload_n d_Mod_layKept_40 rfl 3 rfl ?_
  refine wp_iaddN d_Mod_layKept_41 ?_
  refine wm_ild (j := 27) (x := (nI e)) d_Mod_layKept_42 hI (by decide) (by decide) (by show _ < 320; omega) (by decide) (he) ?_
  refine wp_bipush (v := nI 8) d_Mod_layKept_43 (by decide) ?_
  refine wp_ishrN d_Mod_layKept_45 (by omega) (by omega) ?_
  refine wp_aload_n d_Mod_layKept_46 rfl 1 rfl ?_
  refine wm_get d_Mod_layKept_47 27 (by decide) wF_Mod_78 rfl ?_
  refine wp_bipush (v := nI 20) d_Mod_layKept_50 (by decide) ?_
  refine wp_iload_n d_Mod_layKept_52 rfl 2 rfl ?_
  refine wp_imulN d_Mod_layKept_53 ?_
  refine wp_iload_n d_Mod_layKept_54 rfl 3 rfl ?_
  refine wp_iaddN d_Mod_layKept_55 ?_
  refine wm_ild (j := 27) (x := (nI e)) d_Mod_layKept_56 hI (by decide) (by decide) (by show _ < 320; omega) (by decide) (he) ?_
  refine wp_sipush (v := nI 255) d_Mod_layKept_57 (by decide) ?_
  refine wp_iandM (c := 8) d_Mod_layKept_60 (by omega) (by decide) ?_
  refine wp_callU (r := 0) d_Mod_layKept_61 (link_V (as := [.int (nI c), .int (nI 0), .int (nI (sn - km + k + 1)), .int (nI (e / 2 ^ 8)), .int (nI (e % 2 ^ 8))]) (rest := []) (r := (R_Mod, T_Mod, 43)) d_Mod_layKept_61 cal_Mod_lay wM_Mod_223 rfl hM_o rfl) cal_Mod_lay (c_Mod_lay hI (by omega) hn (by omega) (by omega) (by omega) (by omega) (by omega)) (Nat.le_of_ble_eq_true rfl) ⟨Nat.le_of_ble_eq_true rfl, Nat.le_of_ble_eq_true rfl⟩ ?_
  refine wp_aload_n d_Mod_layKept_64 rfl 1 rfl ?_
  refine wm_get d_Mod_layKept_65 30 (by decide) wF_Mod_87 rfl ?_
  refine wp_iload_n d_Mod_layKept_68 rfl 2 rfl ?_
  refine wp_aload_n d_Mod_layKept_69 rfl 1 rfl ?_
  refine wm_get d_Mod_layKept_70 1 (by decide) wF_Mod_227 rfl ?_
  refine wp_toI (z := (nI mi)) (hmi) ?_
  refine wm_ist (j := 30) d_Mod_layKept_73 hI (by decide) (by decide) (by show _ < 16; omega) (by decide) ?_
  exact wp_vret d_Mod_layKept_74 rfl ⟨rfl, rfl⟩
def amI (sn km serial : Nat) : Int32 := if sn - km < serial ∧ serial ≤ sn then nI (serial - (sn - km) - 1) else -1
set_option maxRecDepth 20000 in
theorem c_Mod_among {G : Gt} {o : Nat} {A : Nat → Nat} {Fi : Nat → Int32} {M : Nat → Nat → Int32} {Ml : Nat → Nat → Int64} (hI : mInj o A) {c se sn km : Nat} (hc : c < 16) (hse : se < 2 ^ 12) (hsn : M 24 c = nI (sn + 1)) (hsn2 : sn < 999) (hkm : M 26 c = nI km) (hkm2 : km ≤ 20 ∧ km ≤ sn) : CallR G m_Mod_among 0 0 [.ref o, .int (nI c), .int (nI se)] (hM o A Fi M Ml) 0 0 (some (.int (amI sn km se))) (hM o A Fi M Ml) := by
  refine CallS.of (Nat.le_of_ble_eq_true rfl) ?_
  have L2 : ∀ (f k : Nat), km - k < f → k ≤ km → (∀ i, i < k → ¬ sn - km + i + 1 = se) → WP G m_Mod_among (0, 0, 0, 0, (hM o A Fi M Ml), fun r9 h9 => r9 = .inl (some (.int (amI sn km se))) ∧ h9 = (hM o A Fi M Ml)) 2 [(3, .int (nI k)), (0, .ref o), (1, .int (nI c)), (2, .int (nI se))] [] (hM o A Fi M Ml) 0 0 := by
    intro f
    induction f with
    | zero =>
      intro k h1
      omega
    | succ f ih =>
      intro k hf hk hne
      refine wp_iload_n d_Mod_among_2 rfl 0 rfl ?_
      refine wp_aload_n d_Mod_among_3 rfl 1 rfl ?_
      refine wm_get d_Mod_among_4 26 (by decide) wF_Mod_75 rfl ?_
      refine wp_iload_n d_Mod_among_7 rfl 2 rfl ?_
      refine wm_ild (j := 26) (x := (nI km)) d_Mod_among_8 hI (by decide) (by decide) (by show _ < 16; omega) (by decide) (hkm) ?_
      refine wp_geN (tgt := 51) d_Mod_among_9 (by decide) (by omega) (by omega) (fun c9 => ?_) (fun c9 => ?_)
      · refine wp_iconst (v := -1) d_Mod_among_51 (by decide) ?_
        exact wp_iret d_Mod_among_52 rfl ⟨resI (by rw [amI, if_neg (fun q => hne (se - (sn - km) - 1) (by omega) (by omega))]), rfl⟩
      · refine wp_aload_n d_Mod_among_12 rfl 1 rfl ?_
        refine wm_get d_Mod_among_13 24 (by decide) wF_Mod_69 rfl ?_
        refine wp_iload_n d_Mod_among_16 rfl 2 rfl ?_
        refine wm_ild (j := 24) (x := (nI (sn + 1))) d_Mod_among_17 hI (by decide) (by decide) (by show _ < 16; omega) (by decide) (hsn) ?_
        refine wp_iconst (v := nI 1) d_Mod_among_18 (by decide) ?_
        refine wp_isubN d_Mod_among_19 (by omega) ?_
        refine wp_aload_n d_Mod_among_20 rfl 1 rfl ?_
        refine wm_get d_Mod_among_21 26 (by decide) wF_Mod_75 rfl ?_
        refine wp_iload_n d_Mod_among_24 rfl 2 rfl ?_
        refine wm_ild (j := 26) (x := (nI km)) d_Mod_among_25 hI (by decide) (by decide) (by show _ < 16; omega) (by decide) (hkm) ?_
        refine wp_isubN d_Mod_among_26 (by omega) ?_
        refine wp_iload_n d_Mod_among_27 rfl 0 rfl ?_
        refine wp_iaddN d_Mod_among_28 ?_
        refine wp_sipush (v := nI 999) d_Mod_among_29 (by decide) ?_
        refine wp_iaddN d_Mod_among_32 ?_
        refine wp_sipush (v := nI 999) d_Mod_among_33 (by decide) ?_
        refine wp_iremN d_Mod_among_36 (by omega) (by omega) (by omega) ?_
        refine wp_iconst (v := nI 1) d_Mod_among_37 (by decide) ?_
        refine wp_iaddN d_Mod_among_38 ?_
        refine wp_iload_n d_Mod_among_39 rfl 3 rfl ?_
        refine wp_neN (tgt := 45) d_Mod_among_40 (by decide) (by omega) (by omega) (fun c40 => ?_) (fun c40 => ?_)
        · refine wp_iinc (lv' := [(3, .int (nI (k + 1))), (0, .ref o), (1, .int (nI c)), (2, .int (nI se))]) d_Mod_among_45 0 rfl (nI_1 _) (by decide) rfl ?_
          refine wp_goto (tgt := 2) d_Mod_among_48 (by decide) ?_
          exact ih (k + 1) (by omega) (by omega) (fun i hi => by rcases Nat.lt_or_ge i k with h | h; (exact hne i h); (obtain rfl : i = k := (by omega); omega))
        · refine wp_iload_n d_Mod_among_43 rfl 0 rfl ?_
          exact wp_iret d_Mod_among_44 rfl ⟨resI (by rw [amI, if_pos (by omega)]; exact congrArg nI (by omega)), rfl⟩
  refine wp_iconst (v := nI 0) d_Mod_among_0 (by decide) ?_
  refine wp_istore_n (lv' := [(3, .int (nI 0)), (0, .ref o), (1, .int (nI c)), (2, .int (nI se))]) d_Mod_among_1 rfl (by decide) rfl ?_
  exact L2 21 0 (by omega) (by omega) (fun i hi => absurd hi (by omega))
def hasB (L : Nat → Bool) (x : Int32) : Bool := inZ x (nI 0) (nI 7) && L x.toNatClampNeg
theorem c_Mod_hasLineG {G : Gt} {o : Nat} {A : Nat → Nat} {Fi : Nat → Int32} {M : Nat → Nat → Int32} {Ml : Nat → Nat → Int64} (hI : mInj o A) {L : Nat → Bool} (hL : ∀ j, j < 8 → M 6 j = bI (L j)) (x : Int32) : CallR G m_Mod_hasLine 1 14 [.ref o, .int x] (hM o A Fi M Ml) 0 0 (some (.int (bI (hasB L x)))) (hM o A Fi M Ml) := by
  cases hx : inZ x (nI 0) (nI 7) with
  | false => exact CallR.eq (c_Mod_hasLineX hx) (by simp [hasB, hx]) rfl
  | true =>
    obtain ⟨j, hj, rfl⟩ := inZ_of (by decide) hx
    exact CallR.eq (c_Mod_hasLine hI (by omega) (hL j (by omega))) (by simp [hasB, hx, nI_clamp (show j < 2 ^ 31 by omega)]) rfl
set_option maxRecDepth 20000 in
theorem c_Mod_isChannel {G : Gt} {o : Nat} {A : Nat → Nat} {Fi : Nat → Int32} {M : Nat → Nat → Int32} {Ml : Nat → Nat → Int64} (hI : mInj o A) {L : Nat → Bool} (hL : ∀ j, j < 8 → M 6 j = bI (L j)) (x z : Int32) : CallR G m_Mod_isChannel 2 28 [.ref o, .int x, .int z] (hM o A Fi M Ml) 0 0 (some (.int (bI (hasB L x && inZ z (nI 0) (nI 1))))) (hM o A (va_up Fi 0 (nI (if hasB L x && inZ z (nI 0) (nI 1) then 0 else 1))) M Ml) := by
  refine CallS.of (Nat.le_of_ble_eq_true rfl) ?_
  refine wp_aload_n d_Mod_isChannel_0 rfl 0 rfl ?_
  refine wp_aload_n d_Mod_isChannel_1 rfl 0 rfl ?_
  refine wp_iload_n d_Mod_isChannel_2 rfl 1 rfl ?_
  refine wp_callV (r := 1) d_Mod_isChannel_3 (link_V (as := [.int x]) (rest := [.ref o]) (r := (R_Mod, T_Mod, 43)) d_Mod_isChannel_3 cal_Mod_hasLine wM_Mod_119 rfl hM_o rfl) cal_Mod_hasLine (c_Mod_hasLineG hI hL x) (Nat.le_of_ble_eq_true rfl) ⟨Nat.le_of_ble_eq_true rfl, Nat.le_of_ble_eq_true rfl⟩ ?_
  refine wp_if_eqB (tgt := 22) d_Mod_isChannel_6 (by decide) (fun c6 => ?_) (fun c6 => ?_)
  · refine wp_iconst (v := nI 1) d_Mod_isChannel_22 (by decide) ?_
    refine wm_put (Fi' := va_up Fi 0 (nI 1)) d_Mod_isChannel_23 0 (by decide) wF_Mod_111 rfl (by decide) rfl ?_
    refine wp_aload_n d_Mod_isChannel_26 rfl 0 rfl ?_
    refine wm_get d_Mod_isChannel_27 0 (by decide) wF_Mod_111 rfl ?_
    refine wp_toI (z := (nI 1)) (rfl) ?_
    refine wp_if_neN (tgt := 37) d_Mod_isChannel_30 (by decide) (by omega) (fun _ => ?_) (fun c => absurd c (by decide))
    refine wp_iconst (v := nI 0) d_Mod_isChannel_37 (by decide) ?_
    exact wp_zret (ty := .boolean) d_Mod_isChannel_38 rfl rfl ⟨resI (bI_zero (by simp_all)), by simp_all⟩
  · refine wp_iload_n d_Mod_isChannel_9 rfl 2 rfl ?_
    refine wp_iconst (v := nI 0) d_Mod_isChannel_10 (by decide) ?_
    refine wp_iconst (v := nI 1) d_Mod_isChannel_11 (by decide) ?_
    refine wp_callV (r := 1) d_Mod_isChannel_12 (link_S (av := [.int z, .int (nI 0), .int (nI 1)]) (rest := [.ref o]) d_Mod_isChannel_12 cal_Mod_in wM_Mod_115 rfl) cal_Mod_in (c_Mod_in z (nI 0) (nI 1)) (Nat.le_of_ble_eq_true rfl) ⟨Nat.le_of_ble_eq_true rfl, Nat.le_of_ble_eq_true rfl⟩ ?_
    refine wp_if_eqB (tgt := 22) d_Mod_isChannel_15 (by decide) (fun c15 => ?_) (fun c15 => ?_)
    · refine wp_iconst (v := nI 1) d_Mod_isChannel_22 (by decide) ?_
      refine wm_put (Fi' := va_up Fi 0 (nI 1)) d_Mod_isChannel_23 0 (by decide) wF_Mod_111 rfl (by decide) rfl ?_
      refine wp_aload_n d_Mod_isChannel_26 rfl 0 rfl ?_
      refine wm_get d_Mod_isChannel_27 0 (by decide) wF_Mod_111 rfl ?_
      refine wp_toI (z := (nI 1)) (rfl) ?_
      refine wp_if_neN (tgt := 37) d_Mod_isChannel_30 (by decide) (by omega) (fun _ => ?_) (fun c => absurd c (by decide))
      refine wp_iconst (v := nI 0) d_Mod_isChannel_37 (by decide) ?_
      exact wp_zret (ty := .boolean) d_Mod_isChannel_38 rfl rfl ⟨resI (bI_zero (by simp_all)), by simp_all⟩
    · refine wp_iconst (v := nI 0) d_Mod_isChannel_18 (by decide) ?_
      refine wp_goto (tgt := 23) d_Mod_isChannel_19 (by decide) ?_
      refine wm_put (Fi' := va_up Fi 0 (nI 0)) d_Mod_isChannel_23 0 (by decide) wF_Mod_111 rfl (by decide) rfl ?_
      refine wp_aload_n d_Mod_isChannel_26 rfl 0 rfl ?_
      refine wm_get d_Mod_isChannel_27 0 (by decide) wF_Mod_111 rfl ?_
      refine wp_toI (z := (nI 0)) (rfl) ?_
      refine wp_if_neN (tgt := 37) d_Mod_isChannel_30 (by decide) (by omega) (fun c => absurd c (by decide)) (fun _ => ?_)
      refine wp_iconst (v := nI 1) d_Mod_isChannel_33 (by decide) ?_
      refine wp_goto (tgt := 38) d_Mod_isChannel_34 (by decide) ?_
      exact wp_zret (ty := .boolean) d_Mod_isChannel_38 rfl rfl ⟨resI (bI_one (by simp_all)), by simp_all⟩
end Mod11
