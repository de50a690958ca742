section Mod18
/-- in array j the places b + k + 1 .. b + n each have what stood before them -/
def shR (M : Nat → Nat → Int32) (j b k n : Nat) : Nat → Nat → Int32 := va_up M j (fun q => if b + k < q ∧ q ≤ b + n then M j (q - 1) else M j q)
theorem shR_ne (M : Nat → Nat → Int32) {j b k n a : Nat} (h : a ≠ j) : shR M j b k n a = M a := by
  unfold shR va_up
  rw [if_neg h]
theorem shR_at (M : Nat → Nat → Int32) (j b k n q : Nat) : shR M j b k n j q = if b + k < q ∧ q ≤ b + n then M j (q - 1) else M j q := by
  simp [shR, va_up]
theorem shR_0 (M : Nat → Nat → Int32) (j b n : Nat) : shR M j b n n = M := by
  funext a q
  by_cases h : a = j
  · subst h
    rw [shR_at, if_neg (by omega)]
  · rw [shR_ne M h]
theorem shR_s (M : Nat → Nat → Int32) {j b k n : Nat} (h : 0 < k) (hk : k ≤ n) : u2 (shR M j b k n) j (b + k) (M j (b + k - 1)) = shR M j b (k - 1) n := by
  funext a q
  by_cases ha : a = j
  · subst ha
    rw [u2_at, shR_at, shR_at]
    by_cases hq : q = b + k
    · subst hq
      rw [if_pos rfl, if_pos (by omega)]
    · rw [if_neg hq]
      by_cases h1 : b + k < q ∧ q ≤ b + n
      · rw [if_pos h1, if_pos (by omega)]
      · rw [if_neg h1, if_neg (by omega)]
  · rw [u2_ne _ _ ha, shR_ne _ ha, shR_ne _ ha]
theorem RC_take {b : Bool} {d : Ch} {c : Nat} {M : Nat → Nat → Int32} {f : Nat × Nat} {w : List (Nat × Nat)} (hw : cWire d = f :: w) (h : RC b d c M) : RC b (wWire d w) c (u2 (shL M 29 (200 * c) (200 * c + ((cWire d).length - 1))) 28 c (nI ((cWire d).length - 1))) := by
  obtain ⟨h1, h2, h3, h4, h5, h6, h7⟩ := h
  refine ⟨h1, h2, h3, ?_, fun k g hg => ?_, h6, h7⟩
  · rw [u2_at, if_pos rfl, hw]
    rfl
  · have hlt : k < w.length := (List.getElem?_eq_some_iff.mp hg).1
    rw [u2_ne _ _ (by decide), shL_at, if_pos (by rw [hw]; simp; omega), show 200 * c + k + 1 = 200 * c + (k + 1) by omega]
    exact h5 (k + 1) g (by rw [hw]; exact hg)
theorem agr_take {c n : Nat} {M : Nat → Nat → Int32} (hn : n ≤ 200) : agr c M (u2 (shL M 29 (200 * c) (200 * c + (n - 1))) 28 c (nI (n - 1))) := by
  refine agr.trans (M1 := shL M 29 (200 * c) (200 * c + (n - 1))) ⟨fun a ha => shL_ne _ (by omega), fun a h1 h2 i hi => by rw [shL_ne _ h2], fun i hi => by rw [shL_ne _ (by decide)], fun i hi => by rw [shL_at, if_neg (by omega)]⟩ (agr_u2 (j := 28) (by decide) ⟨fun _ _ => rfl, fun h => absurd h (by decide), fun h => absurd h (by decide)⟩)
theorem RC_dbl {b : Bool} {d : Ch} {c : Nat} {M : Nat → Nat → Int32} {f : Nat × Nat} {w : List (Nat × Nat)} (hw : cWire d = f :: w) (h : RC b d c M) : RC b (wWire d (f :: f :: w)) c (u2 (shR M 29 (200 * c) 0 (cWire d).length) 28 c (nI ((cWire d).length + 1))) := by
  obtain ⟨h1, h2, h3, h4, h5, h6, h7⟩ := h
  refine ⟨h1, h2, h3, ?_, fun k g hg => ?_, h6, h7⟩
  · rw [u2_at, if_pos rfl, hw]
    rfl
  · have hlt : k < w.length + 2 := (List.getElem?_eq_some_iff.mp hg).1
    rw [u2_ne _ _ (by decide), shR_at]
    cases k with
    | zero =>
      rw [if_neg (by omega)]
      exact h5 0 g (by rw [hw]; exact hg)
    | succ k =>
      rw [if_pos (by rw [hw]; simp; omega), show 200 * c + (k + 1) - 1 = 200 * c + k by omega]
      exact h5 k g (by rw [hw]; exact hg)
theorem agr_dbl {c n : Nat} {M : Nat → Nat → Int32} (hn : n < 200) : agr c M (u2 (shR M 29 (200 * c) 0 n) 28 c (nI (n + 1))) := by
  refine agr.trans (M1 := shR M 29 (200 * c) 0 n) ⟨fun a ha => shR_ne _ (by omega), fun a h1 h2 i hi => by rw [shR_ne _ h2], fun i hi => by rw [shR_ne _ (by decide)], fun i hi => by rw [shR_at, if_neg (by omega)]⟩ (agr_u2 (j := 28) (by decide) ⟨fun _ _ => rfl, fun h => absurd h (by decide), fun h => absurd h (by decide)⟩)
set_option maxRecDepth 20000 in
theorem c_Mod_disturb0 {G : Gt} {o : Nat} {A : Nat → Nat} {Fi : Nat → Int32} {M : Nat → Nat → Int32} {Ml : Nat → Nat → Int64} {s : Sa} (hI : mInj o A) (hL : RLn s (M 6) (M 7) (M 8) (M 9)) {x z w : Int32} (hx : chOK s x z = false) : CallR G m_Mod_disturb 3 42 [.ref o, .int x, .int z, .int w] (hM o A Fi M Ml) 0 0 (some (.int (bI false))) (hM o A (va_up Fi 0 (nI 1)) M Ml) := by
  refine CallS.of (Nat.le_of_ble_eq_true rfl) ?_
  refine wp_aload_n d_Mod_disturb_0 rfl 0 rfl ?_
  refine wp_iload_n d_Mod_disturb_1 rfl 1 rfl ?_
  refine wp_iload_n d_Mod_disturb_2 rfl 2 rfl ?_
  refine wp_callV (r := 0) d_Mod_disturb_3 (link_V (as := [.int x, .int z]) (rest := []) (r := (R_Mod, T_Mod, 43)) d_Mod_disturb_3 cal_Mod_isChannel wM_Mod_230 rfl hM_o rfl) cal_Mod_isChannel (c_Mod_isChannelF hI hL hx) (Nat.le_of_ble_eq_true rfl) ⟨Nat.le_of_ble_eq_true rfl, Nat.le_of_ble_eq_true rfl⟩ ?_
  refine wp_if_neB (tgt := 11) d_Mod_disturb_6 (by decide) (fun c => absurd c (by decide)) (fun _ => ?_)
  refine wp_iconst (v := nI 0) d_Mod_disturb_9 (by decide) ?_
  exact wp_zret (ty := .boolean) d_Mod_disturb_10 rfl rfl ⟨resI (bI_zero (rfl)), rfl⟩
set_option maxRecDepth 20000 in
theorem c_Mod_disturb1 {G : Gt} {o : Nat} {A : Nat → Nat} {Fi : Nat → Int32} {M : Nat → Nat → Int32} {Ml : Nat → Nat → Int64} {s : Sa} (hI : mInj o A) (hL : RLn s (M 6) (M 7) (M 8) (M 9)) {l c : Nat} (hl : l < 8) (hc : c < 2) (hx : chOK s (nI l) (nI c) = true) {w : Int32} (hw : inZ w (nI 0) (nI 1) = false) : CallR G m_Mod_disturb 3 42 [.ref o, .int (nI l), .int (nI c), .int w] (hM o A Fi M Ml) 0 0 (some (.int (bI false))) (hM o A (va_up (va_up Fi 0 (nI 0)) 0 (nI 1)) M Ml) := by
  refine CallS.of (Nat.le_of_ble_eq_true rfl) ?_
  refine wp_aload_n d_Mod_disturb_0 rfl 0 rfl ?_
  refine wp_iload_n d_Mod_disturb_1 rfl 1 rfl ?_
  refine wp_iload_n d_Mod_disturb_2 rfl 2 rfl ?_
  refine wp_callV (r := 0) d_Mod_disturb_3 (link_V (as := [.int (nI l), .int (nI c)]) (rest := []) (r := (R_Mod, T_Mod, 43)) d_Mod_disturb_3 cal_Mod_isChannel wM_Mod_230 rfl hM_o rfl) cal_Mod_isChannel (c_Mod_isChannelT hI hL hx) (Nat.le_of_ble_eq_true rfl) ⟨Nat.le_of_ble_eq_true rfl, Nat.le_of_ble_eq_true rfl⟩ ?_
  refine wp_if_neB (tgt := 11) d_Mod_disturb_6 (by decide) (fun _ => ?_) (fun c => absurd c (by decide))
  refine wp_aload_n d_Mod_disturb_11 rfl 0 rfl ?_
  refine wp_iload_n d_Mod_disturb_12 rfl 3 rfl ?_
  refine wp_iconst (v := nI 0) d_Mod_disturb_13 (by decide) ?_
  refine wp_iconst (v := nI 1) d_Mod_disturb_14 (by decide) ?_
  refine wp_callV (r := 1) d_Mod_disturb_15 (link_S (av := [.int w, .int (nI 0), .int (nI 1)]) (rest := [.ref o]) d_Mod_disturb_15 cal_Mod_in wM_Mod_115 rfl) cal_Mod_in (c_Mod_inF hw) (Nat.le_of_ble_eq_true rfl) ⟨Nat.le_of_ble_eq_true rfl, Nat.le_of_ble_eq_true rfl⟩ ?_
  refine wp_if_eqB (tgt := 25) d_Mod_disturb_18 (by decide) (fun _ => ?_) (fun c => absurd c (by decide))
  refine wp_iconst (v := nI 1) d_Mod_disturb_25 (by decide) ?_
  refine wm_put (Fi' := va_up (va_up Fi 0 (nI 0)) 0 (nI 1)) d_Mod_disturb_26 0 (by decide) wF_Mod_111 rfl (by decide) rfl ?_
  refine wp_iconst (v := nI 2) d_Mod_disturb_29 (by decide) ?_
  refine wp_iload_n d_Mod_disturb_30 rfl 1 rfl ?_
  refine wp_imulN d_Mod_disturb_31 ?_
  refine wp_iload_n d_Mod_disturb_32 rfl 2 rfl ?_
  refine wp_iaddN d_Mod_disturb_33 ?_
  refine wp_istore (lv' := [(4, .int (nI ((2 * l) + c))), (0, .ref o), (1, .int (nI l)), (2, .int (nI c)), (3, .int w)]) d_Mod_disturb_34 (by decide) rfl ?_
  refine wp_aload_n d_Mod_disturb_36 rfl 1 rfl ?_
  refine wm_get d_Mod_disturb_37 0 (by decide) wF_Mod_111 rfl ?_
  refine wp_toI (z := (nI 1)) (rfl) ?_
  refine wp_if_gtN (tgt := 71) d_Mod_disturb_40 (by decide) (by omega) (fun _ => ?_) (fun c => absurd c (by decide))
  refine wp_iconst (v := nI 0) d_Mod_disturb_71 (by decide) ?_
  exact wp_zret (ty := .boolean) d_Mod_disturb_72 rfl rfl ⟨resI (bI_zero (rfl)), rfl⟩
set_option maxRecDepth 20000 in
theorem c_Mod_disturb2 {G : Gt} {o : Nat} {A : Nat → Nat} {Fi : Nat → Int32} {M : Nat → Nat → Int32} {Ml : Nat → Nat → Int64} {s : Sa} (hI : mInj o A) (hL : RLn s (M 6) (M 7) (M 8) (M 9)) {l c : Nat} (hl : l < 8) (hc : c < 2) (hx : chOK s (nI l) (nI c) = true) {w : Nat} (hw : w ≤ 1) (hn : M 28 (2 * l + c) = nI 0) : CallR G m_Mod_disturb 3 42 [.ref o, .int (nI l), .int (nI c), .int (nI w)] (hM o A Fi M Ml) 0 0 (some (.int (bI false))) (hM o A (va_up (va_up Fi 0 (nI 0)) 0 (nI 0)) M Ml) := by
  refine CallS.of (Nat.le_of_ble_eq_true rfl) ?_
  refine wp_aload_n d_Mod_disturb_0 rfl 0 rfl ?_
  refine wp_iload_n d_Mod_disturb_1 rfl 1 rfl ?_
  refine wp_iload_n d_Mod_disturb_2 rfl 2 rfl ?_
  refine wp_callV (r := 0) d_Mod_disturb_3 (link_V (as := [.int (nI l), .int (nI c)]) (rest := []) (r := (R_Mod, T_Mod, 43)) d_Mod_disturb_3 cal_Mod_isChannel wM_Mod_230 rfl hM_o rfl) cal_Mod_isChannel (c_Mod_isChannelT hI hL hx) (Nat.le_of_ble_eq_true rfl) ⟨Nat.le_of_ble_eq_true rfl, Nat.le_of_ble_eq_true rfl⟩ ?_
  refine wp_if_neB (tgt := 11) d_Mod_disturb_6 (by decide) (fun _ => ?_) (fun c => absurd c (by decide))
  refine wp_aload_n d_Mod_disturb_11 rfl 0 rfl ?_
  refine wp_iload_n d_Mod_disturb_12 rfl 3 rfl ?_
  refine wp_iconst (v := nI 0) d_Mod_disturb_13 (by decide) ?_
  refine wp_iconst (v := nI 1) d_Mod_disturb_14 (by decide) ?_
  refine wp_callV (r := 1) d_Mod_disturb_15 (link_S (av := [.int (nI w), .int (nI 0), .int (nI 1)]) (rest := [.ref o]) d_Mod_disturb_15 cal_Mod_in wM_Mod_115 rfl) cal_Mod_in (c_Mod_inT (by omega) (by omega) (by omega)) (Nat.le_of_ble_eq_true rfl) ⟨Nat.le_of_ble_eq_true rfl, Nat.le_of_ble_eq_true rfl⟩ ?_
  refine wp_if_eqB (tgt := 25) d_Mod_disturb_18 (by decide) (fun c => absurd c (by decide)) (fun _ => ?_)
  refine wp_iconst (v := nI 0) d_Mod_disturb_21 (by decide) ?_
  refine wp_goto (tgt := 26) d_Mod_disturb_22 (by decide) ?_
  refine wm_put (Fi' := va_up (va_up Fi 0 (nI 0)) 0 (nI 0)) d_Mod_disturb_26 0 (by decide) wF_Mod_111 rfl (by decide) rfl ?_
  refine wp_iconst (v := nI 2) d_Mod_disturb_29 (by decide) ?_
  refine wp_iload_n d_Mod_disturb_30 rfl 1 rfl ?_
  refine wp_imulN d_Mod_disturb_31 ?_
  refine wp_iload_n d_Mod_disturb_32 rfl 2 rfl ?_
  refine wp_iaddN d_Mod_disturb_33 ?_
  refine wp_istore (lv' := [(4, .int (nI ((2 * l) + c))), (0, .ref o), (1, .int (nI l)), (2, .int (nI c)), (3, .int (nI w))]) d_Mod_disturb_34 (by decide) rfl ?_
  refine wp_aload_n d_Mod_disturb_36 rfl 1 rfl ?_
  refine wm_get d_Mod_disturb_37 0 (by decide) wF_Mod_111 rfl ?_
  refine wp_toI (z := (nI 0)) (rfl) ?_
  refine wp_if_gtN (tgt := 71) d_Mod_disturb_40 (by decide) (by omega) (fun c => absurd c (by decide)) (fun _ => ?_)
  refine wp_aload_n d_Mod_disturb_43 rfl 1 rfl ?_
  refine wm_get d_Mod_disturb_44 28 (by decide) wF_Mod_81 rfl ?_
  refine wp_iload d_Mod_disturb_47 0 rfl ?_
  refine wm_ild (j := 28) (x := (nI 0)) d_Mod_disturb_49 hI (by decide) (by decide) (by show _ < 16; omega) (by decide) (hn) ?_
  refine wp_if_eqN (tgt := 71) d_Mod_disturb_50 (by decide) (by omega) (fun _ => ?_) (fun c => absurd c (by decide))
  refine wp_iconst (v := nI 0) d_Mod_disturb_71 (by decide) ?_
  exact wp_zret (ty := .boolean) d_Mod_disturb_72 rfl rfl ⟨resI (bI_zero (rfl)), rfl⟩
set_option maxRecDepth 20000 in
theorem c_Mod_disturb3 {G : Gt} {o : Nat} {A : Nat → Nat} {Fi : Nat → Int32} {M : Nat → Nat → Int32} {Ml : Nat → Nat → Int64} {s : Sa} (hI : mInj o A) (hL : RLn s (M 6) (M 7) (M 8) (M 9)) {l c : Nat} (hl : l < 8) (hc : c < 2) (hx : chOK s (nI l) (nI c) = true) (hn : M 28 (2 * l + c) = nI 200) : CallR G m_Mod_disturb 3 42 [.ref o, .int (nI l), .int (nI c), .int (nI 1)] (hM o A Fi M Ml) 0 0 (some (.int (bI false))) (hM o A (va_up (va_up Fi 0 (nI 0)) 0 (nI 0)) M Ml) := by
  refine CallS.of (Nat.le_of_ble_eq_true rfl) ?_
  refine wp_aload_n d_Mod_disturb_0 rfl 0 rfl ?_
  refine wp_iload_n d_Mod_disturb_1 rfl 1 rfl ?_
  refine wp_iload_n d_Mod_disturb_2 rfl 2 rfl ?_
  refine wp_callV (r := 0) d_Mod_disturb_3 (link_V (as := [.int (nI l), .int (nI c)]) (rest := []) (r := (R_Mod, T_Mod, 43)) d_Mod_disturb_3 cal_Mod_isChannel wM_Mod_230 rfl hM_o rfl) cal_Mod_isChannel (c_Mod_isChannelT hI hL hx) (Nat.le_of_ble_eq_true rfl) ⟨Nat.le_of_ble_eq_true rfl, Nat.le_of_ble_eq_true rfl⟩ ?_
  refine wp_if_neB (tgt := 11) d_Mod_disturb_6 (by decide) (fun _ => ?_) (fun c => absurd c (by decide))
  refine wp_aload_n d_Mod_disturb_11 rfl 0 rfl ?_
  refine wp_iload_n d_Mod_disturb_12 rfl 3 rfl ?_
  refine wp_iconst (v := nI 0) d_Mod_disturb_13 (by decide) ?_
  refine wp_iconst (v := nI 1) d_Mod_disturb_14 (by decide) ?_
  refine wp_callV (r := 1) d_Mod_disturb_15 (link_S (av := [.int (nI 1), .int (nI 0), .int (nI 1)]) (rest := [.ref o]) d_Mod_disturb_15 cal_Mod_in wM_Mod_115 rfl) cal_Mod_in (c_Mod_inT (by omega) (by omega) (by omega)) (Nat.le_of_ble_eq_true rfl) ⟨Nat.le_of_ble_eq_true rfl, Nat.le_of_ble_eq_true rfl⟩ ?_
  refine wp_if_eqB (tgt := 25) d_Mod_disturb_18 (by decide) (fun c => absurd c (by decide)) (fun _ => ?_)
  refine wp_iconst (v := nI 0) d_Mod_disturb_21 (by decide) ?_
  refine wp_goto (tgt := 26) d_Mod_disturb_22 (by decide) ?_
  refine wm_put (Fi' := va_up (va_up Fi 0 (nI 0)) 0 (nI 0)) d_Mod_disturb_26 0 (by decide) wF_Mod_111 rfl (by decide) rfl ?_
  refine wp_iconst (v := nI 2) d_Mod_disturb_29 (by decide) ?_
  refine wp_iload_n d_Mod_disturb_30 rfl 1 rfl ?_
  refine wp_imulN d_Mod_disturb_31 ?_
  refine wp_iload_n d_Mod_disturb_32 rfl 2 rfl ?_
  refine wp_iaddN d_Mod_disturb_33 ?_
  refine wp_istore (lv' := [(4, .int (nI ((2 * l) + c))), (0, .ref o), (1, .int (nI l)), (2, .int (nI c)), (3, .int (nI 1))]) d_Mod_disturb_34 (by decide) rfl ?_
  refine wp_aload_n d_Mod_disturb_36 rfl 1 rfl ?_
  refine wm_get d_Mod_disturb_37 0 (by decide) wF_Mod_111 rfl ?_
  refine wp_toI (z := (nI 0)) (rfl) ?_
  refine wp_if_gtN (tgt := 71) d_Mod_disturb_40 (by decide) (by omega) (fun c => absurd c (by decide)) (fun _ => ?_)
  refine wp_aload_n d_Mod_disturb_43 rfl 1 rfl ?_
  refine wm_get d_Mod_disturb_44 28 (by decide) wF_Mod_81 rfl ?_
  refine wp_iload d_Mod_disturb_47 0 rfl ?_
  refine wm_ild (j := 28) (x := (nI 200)) d_Mod_disturb_49 hI (by decide) (by decide) (by show _ < 16; omega) (by decide) (hn) ?_
  refine wp_if_eqN (tgt := 71) d_Mod_disturb_50 (by decide) (by omega) (fun c => absurd c (by decide)) (fun _ => ?_)
  refine wp_iload_n d_Mod_disturb_53 rfl 4 rfl ?_
  refine wp_iconst (v := nI 1) d_Mod_disturb_54 (by decide) ?_
  refine wp_neN (tgt := 73) d_Mod_disturb_55 (by decide) (by omega) (by omega) (fun c => absurd c (by decide)) (fun _ => ?_)
  refine wp_aload_n d_Mod_disturb_58 rfl 1 rfl ?_
  refine wm_get d_Mod_disturb_59 28 (by decide) wF_Mod_81 rfl ?_
  refine wp_iload d_Mod_disturb_62 0 rfl ?_
  refine wm_ild (j := 28) (x := (nI 200)) d_Mod_disturb_64 hI (by decide) (by decide) (by show _ < 16; omega) (by decide) (hn) ?_
  refine wp_sipush (v := nI 200) d_Mod_disturb_65 (by decide) ?_
  refine wp_neN (tgt := 73) d_Mod_disturb_68 (by decide) (by omega) (by omega) (fun c => absurd c (by decide)) (fun _ => ?_)
  refine wp_iconst (v := nI 0) d_Mod_disturb_71 (by decide) ?_
  exact wp_zret (ty := .boolean) d_Mod_disturb_72 rfl rfl ⟨resI (bI_zero (rfl)), rfl⟩
set_option maxRecDepth 20000 in
theorem c_Mod_disturb4 {G : Gt} {o : Nat} {A : Nat → Nat} {Fi : Nat → Int32} {M : Nat → Nat → Int32} {Ml : Nat → Nat → Int64} {s : Sa} (hI : mInj o A) (hL : RLn s (M 6) (M 7) (M 8) (M 9)) {l c : Nat} (hl : l < 8) (hc : c < 2) (hx : chOK s (nI l) (nI c) = true) {n : Nat} (hn : M 28 (2 * l + c) = nI n) (hn2 : n ≤ 200) (hn1 : 0 < n) : CallR G m_Mod_disturb 3 42 [.ref o, .int (nI l), .int (nI c), .int (nI 0)] (hM o A Fi M Ml) 0 0 (some (.int (bI true))) (hM o A (va_up (va_up Fi 0 (nI 0)) 0 (nI 0)) (u2 (shL M 29 (200 * (2 * l + c)) (200 * (2 * l + c) + (n - 1))) 28 (2 * l + c) (nI (n - 1))) Ml) := by
  refine CallS.of (Nat.le_of_ble_eq_true rfl) ?_
  refine wp_aload_n d_Mod_disturb_0 rfl 0 rfl ?_
  refine wp_iload_n d_Mod_disturb_1 rfl 1 rfl ?_
  refine wp_iload_n d_Mod_disturb_2 rfl 2 rfl ?_
  refine wp_callV (r := 0) d_Mod_disturb_3 (link_V (as := [.int (nI l), .int (nI c)]) (rest := []) (r := (R_Mod, T_Mod, 43)) d_Mod_disturb_3 cal_Mod_isChannel wM_Mod_230 rfl hM_o rfl) cal_Mod_isChannel (c_Mod_isChannelT hI hL hx) (Nat.le_of_ble_eq_true rfl) ⟨Nat.le_of_ble_eq_true rfl, Nat.le_of_ble_eq_true rfl⟩ ?_
  refine wp_if_neB (tgt := 11) d_Mod_disturb_6 (by decide) (fun _ => ?_) (fun c => absurd c (by decide))
  refine wp_aload_n d_Mod_disturb_11 rfl 0 rfl ?_
  refine wp_iload_n d_Mod_disturb_12 rfl 3 rfl ?_
  refine wp_iconst (v := nI 0) d_Mod_disturb_13 (by decide) ?_
  refine wp_iconst (v := nI 1) d_Mod_disturb_14 (by decide) ?_
  refine wp_callV (r := 1) d_Mod_disturb_15 (link_S (av := [.int (nI 0), .int (nI 0), .int (nI 1)]) (rest := [.ref o]) d_Mod_disturb_15 cal_Mod_in wM_Mod_115 rfl) cal_Mod_in (c_Mod_inT (by omega) (by omega) (by omega)) (Nat.le_of_ble_eq_true rfl) ⟨Nat.le_of_ble_eq_true rfl, Nat.le_of_ble_eq_true rfl⟩ ?_
  refine wp_if_eqB (tgt := 25) d_Mod_disturb_18 (by decide) (fun c => absurd c (by decide)) (fun _ => ?_)
  refine wp_iconst (v := nI 0) d_Mod_disturb_21 (by decide) ?_
  refine wp_goto (tgt := 26) d_Mod_disturb_22 (by decide) ?_
  refine wm_put (Fi' := va_up (va_up Fi 0 (nI 0)) 0 (nI 0)) d_Mod_disturb_26 0 (by decide) wF_Mod_111 rfl (by decide) rfl ?_
  refine wp_iconst (v := nI 2) d_Mod_disturb_29 (by decide) ?_
  refine wp_iload_n d_Mod_disturb_30 rfl 1 rfl ?_
  refine wp_imulN d_Mod_disturb_31 ?_
  refine wp_iload_n d_Mod_disturb_32 rfl 2 rfl ?_
  refine wp_iaddN d_Mod_disturb_33 ?_
  refine wp_istore (lv' := [(4, .int (nI ((2 * l) + c))), (0, .ref o), (1, .int (nI l)), (2, .int (nI c)), (3, .int (nI 0))]) d_Mod_disturb_34 (by decide) rfl ?_
  refine wp_aload_n d_Mod_disturb_36 rfl 1 rfl ?_
  refine wm_get d_Mod_disturb_37 0 (by decide) wF_Mod_111 rfl ?_
  refine wp_toI (z := (nI 0)) (rfl) ?_
  refine wp_if_gtN (tgt := 71) d_Mod_disturb_40 (by decide) (by omega) (fun c => absurd c (by decide)) (fun _ => ?_)
  refine wp_aload_n d_Mod_disturb_43 rfl 1 rfl ?_
  refine wm_get d_Mod_disturb_44 28 (by decide) wF_Mod_81 rfl ?_
  refine wp_iload d_Mod_disturb_47 0 rfl ?_
  refine wm_ild (j := 28) (x := (nI n)) d_Mod_disturb_49 hI (by decide) (by decide) (by show _ < 16; omega) (by decide) (hn) ?_
  refine wp_if_eqN (tgt := 71) d_Mod_disturb_50 (by decide) (by omega) (fun c50 => ?_) (fun c50 => ?_)
  · exact absurd c50 (by omega)
  · refine wp_iload_n d_Mod_disturb_53 rfl 4 rfl ?_
    refine wp_iconst (v := nI 1) d_Mod_disturb_54 (by decide) ?_
    refine wp_neN (tgt := 73) d_Mod_disturb_55 (by decide) (by omega) (by omega) (fun _ => ?_) (fun c => absurd c (by decide))
    refine wp_iload_n d_Mod_disturb_73 rfl 4 rfl ?_
    refine wp_if_neN (tgt := 85) d_Mod_disturb_74 (by decide) (by omega) (fun c => absurd c (by decide)) (fun _ => ?_)
    refine wp_aload_n d_Mod_disturb_77 rfl 1 rfl ?_
    refine wp_iload d_Mod_disturb_78 0 rfl ?_
    refine wp_callU (r := 0) d_Mod_disturb_80 (link_V (as := [.int (nI ((2 * l) + c))]) (rest := []) (r := (R_Mod, T_Mod, 43)) d_Mod_disturb_80 cal_Mod_takeFrame wM_Mod_240 rfl hM_o rfl) cal_Mod_takeFrame (c_Mod_takeFrame hI (by omega) hn hn2 (by omega)) (Nat.le_of_ble_eq_true rfl) ⟨Nat.le_of_ble_eq_true rfl, Nat.le_of_ble_eq_true rfl⟩ ?_
    refine wp_iconst (v := nI 1) d_Mod_disturb_83 (by decide) ?_
    exact wp_zret (ty := .boolean) d_Mod_disturb_84 rfl rfl ⟨resI (bI_one rfl), rfl⟩
set_option maxRecDepth 20000 in
theorem c_Mod_disturb5 {G : Gt} {o : Nat} {A : Nat → Nat} {Fi : Nat → Int32} {M : Nat → Nat → Int32} {Ml : Nat → Nat → Int64} {s : Sa} (hI : mInj o A) (hL : RLn s (M 6) (M 7) (M 8) (M 9)) {l c : Nat} (hl : l < 8) (hc : c < 2) (hx : chOK s (nI l) (nI c) = true) {n : Nat} (hn : M 28 (2 * l + c) = nI n) (hn2 : n < 200) (hn1 : 0 < n) : CallR G m_Mod_disturb 3 42 [.ref o, .int (nI l), .int (nI c), .int (nI 1)] (hM o A Fi M Ml) 0 0 (some (.int (bI true))) (hM o A (va_up (va_up Fi 0 (nI 0)) 0 (nI 0)) (u2 (shR M 29 (200 * (2 * l + c)) 0 n) 28 (2 * l + c) (nI (n + 1))) Ml) := by
  refine CallS.of (Nat.le_of_ble_eq_true rfl) ?_
  have L2 : ∀ (f k : Nat) (X : Nat → Nat → Int32), k < f → k ≤ n → X = shR M 29 (200 * (2 * l + c)) k n → WP G m_Mod_disturb (3, 42, 0, 0, (hM o A Fi M Ml), fun r9 h9 => r9 = .inl (some (.int (bI true))) ∧ h9 = (hM o A (va_up (va_up Fi 0 (nI 0)) 0 (nI 0)) (u2 (shR M 29 (200 * (2 * l + c)) 0 n) 28 (2 * l + c) (nI (n + 1))) Ml)) 94 [(5, .int (nI k)), (4, .int (nI (2 * l + c))), (0, .ref o)] [] (hM o A (va_up (va_up Fi 0 (nI 0)) 0 (nI 0)) X Ml) 0 0 := by
    intro f
    induction f with
    | zero =>
      intro k X h1
      omega
    | succ f ih =>
      intro k X hf hk hX
      refine wp_iload d_Mod_disturb_94 0 rfl ?_
      refine wp_if_leN (tgt := 135) d_Mod_disturb_96 (by decide) (by omega) (fun c96 => ?_) (fun c96 => ?_)
      · refine wp_aload_n d_Mod_disturb_135 rfl 2 rfl ?_
        refine wm_get d_Mod_disturb_136 28 (by decide) wF_Mod_81 rfl ?_
        refine wp_iload d_Mod_disturb_139 1 rfl ?_
        refine wp_dup2 d_Mod_disturb_141 rfl rfl ?_
        refine wm_ild (j := 28) (x := (nI n)) d_Mod_disturb_142 hI (by decide) (by decide) (by show _ < 16; omega) (by decide) (by rw [hX, shR_ne _ (by decide)]; exact hn) ?_
        refine wp_iconst (v := nI 1) d_Mod_disturb_143 (by decide) ?_
        refine wp_iaddN d_Mod_disturb_144 ?_
        refine wm_ist (j := 28) d_Mod_disturb_145 hI (by decide) (by decide) (by show _ < 16; omega) (by decide) ?_
        refine wp_iconst (v := nI 1) d_Mod_disturb_146 (by decide) ?_
        exact wp_zret (ty := .boolean) d_Mod_disturb_147 rfl rfl ⟨resI (bI_one rfl), by rw [hX, show k = 0 by omega]⟩
      · refine wp_aload_n d_Mod_disturb_99 rfl 2 rfl ?_
        refine wm_get d_Mod_disturb_100 29 (by decide) wF_Mod_84 rfl ?_
        refine wp_sipush (v := nI 200) d_Mod_disturb_103 (by decide) ?_
        refine wp_iload d_Mod_disturb_106 1 rfl ?_
        refine wp_imulN d_Mod_disturb_108 ?_
        refine wp_iload d_Mod_disturb_109 0 rfl ?_
        refine wp_iaddN d_Mod_disturb_111 ?_
        refine wp_aload_n d_Mod_disturb_112 rfl 2 rfl ?_
        refine wm_get d_Mod_disturb_113 29 (by decide) wF_Mod_84 rfl ?_
        refine wp_sipush (v := nI 200) d_Mod_disturb_116 (by decide) ?_
        refine wp_iload d_Mod_disturb_119 1 rfl ?_
        refine wp_imulN d_Mod_disturb_121 ?_
        refine wp_iload d_Mod_disturb_122 0 rfl ?_
        refine wp_iaddN d_Mod_disturb_124 ?_
        refine wp_iconst (v := nI 1) d_Mod_disturb_125 (by decide) ?_
        refine wp_isubN d_Mod_disturb_126 (by omega) ?_
        refine wm_ild (j := 29) (x := (M 29 (200 * (2 * l + c) + k - 1))) d_Mod_disturb_127 hI (by decide) (by decide) (by show _ < 3200; omega) (by decide) (by rw [hX, shR_at, if_neg (by omega)]) ?_
        refine wm_ist (j := 29) d_Mod_disturb_128 hI (by decide) (by decide) (by show _ < 3200; omega) (by decide) ?_
        refine wp_iinc (lv' := [(5, .int (nI (k - 1))), (4, .int (nI (2 * l + c))), (0, .ref o)]) d_Mod_disturb_129 0 rfl (by first | exact sb_m1 (by omega) | exact pk_m1 _) (by decide) rfl ?_
        refine wp_goto (tgt := 94) d_Mod_disturb_132 (by decide) ?_
        exact ih (k - 1) _ (by omega) (by omega) (by rw [hX, shR_s M (by omega) (by omega)])
  refine wp_aload_n d_Mod_disturb_0 rfl 0 rfl ?_
  refine wp_iload_n d_Mod_disturb_1 rfl 1 rfl ?_
  refine wp_iload_n d_Mod_disturb_2 rfl 2 rfl ?_
  refine wp_callV (r := 0) d_Mod_disturb_3 (link_V (as := [.int (nI l), .int (nI c)]) (rest := []) (r := (R_Mod, T_Mod, 43)) d_Mod_disturb_3 cal_Mod_isChannel wM_Mod_230 rfl hM_o rfl) cal_Mod_isChannel (c_Mod_isChannelT hI hL hx) (Nat.le_of_ble_eq_true rfl) ⟨Nat.le_of_ble_eq_true rfl, Nat.le_of_ble_eq_true rfl⟩ ?_
  refine wp_if_neB (tgt := 11) d_Mod_disturb_6 (by decide) (fun _ => ?_) (fun c => absurd c (by decide))
  refine wp_aload_n d_Mod_disturb_11 rfl 0 rfl ?_
  refine wp_iload_n d_Mod_disturb_12 rfl 3 rfl ?_
  refine wp_iconst (v := nI 0) d_Mod_disturb_13 (by decide) ?_
  refine wp_iconst (v := nI 1) d_Mod_disturb_14 (by decide) ?_
  refine wp_callV (r := 1) d_Mod_disturb_15 (link_S (av := [.int (nI 1), .int (nI 0), .int (nI 1)]) (rest := [.ref o]) d_Mod_disturb_15 cal_Mod_in wM_Mod_115 rfl) cal_Mod_in (c_Mod_inT (by omega) (by omega) (by omega)) (Nat.le_of_ble_eq_true rfl) ⟨Nat.le_of_ble_eq_true rfl, Nat.le_of_ble_eq_true rfl⟩ ?_
  refine wp_if_eqB (tgt := 25) d_Mod_disturb_18 (by decide) (fun c => absurd c (by decide)) (fun _ => ?_)
  refine wp_iconst (v := nI 0) d_Mod_disturb_21 (by decide) ?_
  refine wp_goto (tgt := 26) d_Mod_disturb_22 (by decide) ?_
  refine wm_put (Fi' := va_up (va_up Fi 0 (nI 0)) 0 (nI 0)) d_Mod_disturb_26 0 (by decide) wF_Mod_111 rfl (by decide) rfl ?_
  refine wp_iconst (v := nI 2) d_Mod_disturb_29 (by decide) ?_
  refine wp_iload_n d_Mod_disturb_30 rfl 1 rfl ?_
  refine wp_imulN d_Mod_disturb_31 ?_
  refine wp_iload_n d_Mod_disturb_32 rfl 2 rfl ?_
  refine wp_iaddN d_Mod_disturb_33 ?_
  refine wp_istore (lv' := [(4, .int (nI ((2 * l) + c))), (0, .ref o), (1, .int (nI l)), (2, .int (nI c)), (3, .int (nI 1))]) d_Mod_disturb_34 (by decide) rfl ?_
  refine wp_aload_n d_Mod_disturb_36 rfl 1 rfl ?_
  refine wm_get d_Mod_disturb_37 0 (by decide) wF_Mod_111 rfl ?_
  refine wp_toI (z := (nI 0)) (rfl) ?_
  refine wp_if_gtN (tgt := 71) d_Mod_disturb_40 (by decide) (by omega) (fun c => absurd c (by decide)) (fun _ => ?_)
  refine wp_aload_n d_Mod_disturb_43 rfl 1 rfl ?_
  refine wm_get d_Mod_disturb_44 28 (by decide) wF_Mod_81 rfl ?_
  refine wp_iload d_Mod_disturb_47 0 rfl ?_
  refine wm_ild (j := 28) (x := (nI n)) d_Mod_disturb_49 hI (by decide) (by decide) (by show _ < 16; omega) (by decide) (hn) ?_
  refine wp_if_eqN (tgt := 71) d_Mod_disturb_50 (by decide) (by omega) (fun c50 => ?_) (fun c50 => ?_)
  · first | exact absurd c50 (by omega) | exact absurd c68 (by omega)
  · refine wp_iload_n d_Mod_disturb_53 rfl 4 rfl ?_
    refine wp_iconst (v := nI 1) d_Mod_disturb_54 (by decide) ?_
    refine wp_neN (tgt := 73) d_Mod_disturb_55 (by decide) (by omega) (by omega) (fun c => absurd c (by decide)) (fun _ => ?_)
    refine wp_aload_n d_Mod_disturb_58 rfl 1 rfl ?_
    refine wm_get d_Mod_disturb_59 28 (by decide) wF_Mod_81 rfl ?_
    refine wp_iload d_Mod_disturb_62 0 rfl ?_
    refine wm_ild (j := 28) (x := (nI n)) d_Mod_disturb_64 hI (by decide) (by decide) (by show _ < 16; omega) (by decide) (hn) ?_
    refine wp_sipush (v := nI 200) d_Mod_disturb_65 (by decide) ?_
    refine wp_neN (tgt := 73) d_Mod_disturb_68 (by decide) (by omega) (by omega) (fun c68 => ?_) (fun c68 => ?_)
    · refine wp_iload_n d_Mod_disturb_73 rfl 4 rfl ?_
      refine wp_if_neN (tgt := 85) d_Mod_disturb_74 (by decide) (by omega) (fun _ => ?_) (fun c => absurd c (by decide))
      refine wp_aload_n d_Mod_disturb_85 rfl 1 rfl ?_
      refine wm_get d_Mod_disturb_86 28 (by decide) wF_Mod_81 rfl ?_
      refine wp_iload d_Mod_disturb_89 0 rfl ?_
      refine wm_ild (j := 28) (x := (nI n)) d_Mod_disturb_91 hI (by decide) (by decide) (by show _ < 16; omega) (by decide) (hn) ?_
      refine wp_istore (lv' := [(5, .int (nI n)), (4, .int (nI ((2 * l) + c))), (0, .ref o), (1, .int (nI l)), (2, .int (nI c)), (3, .int (nI 1))]) d_Mod_disturb_92 (by decide) rfl ?_
      refine wp_lv [0, 1, 2] rfl ?_
      exact L2 (n + 1) n M (by omega) (by omega) (shR_0 M 29 _ n).symm
    · first | exact absurd c50 (by omega) | exact absurd c68 (by omega)
theorem chB {n : Nat} {s : Sa} (hV : Inv n s) (c : Nat) : cKept (sCh s c) ≤ 20 ∧ (cWire (sCh s c)).length ≤ 200 := ⟨(hV.bCh c).1, (hV.bCh c).2.2.2.2.2.1⟩
theorem c_Mod_disturb {G : Gt} {o : Nat} {A : Nat → Nat} {Fi : Nat → Int32} {M : Nat → Nat → Int32} {Ml : Nat → Nat → Int64} {s : Sa} {n : Nat} (hI : mInj o A) (hR : RepM s Fi M Ml) (hV : Inv n s) (x z w : Int32) : CallE G m_Mod_disturb 3 60 [.ref o, .int x, .int z, .int w] (hM o A Fi M Ml) 0 0 (some (.int (stDisturb s x z w).2.1)) (RefOK o A (stDisturb s x z w)) := by
  cases hx : chOK s x z with
  | false =>
    rw [show stDisturb s x z w = (1, 0, s) by unfold stDisturb; rw [hx]; rfl]
    exact CallR.E (CallR.up (c_Mod_disturb0 hI hR.ln hx) (by decide) (by decide)) ⟨_, _, _, rfl, hR, rfl⟩
  | true =>
    obtain ⟨l, c, hl, hc, rfl, rfl, hs⟩ := chOK_of hx
    have hch := hR.ch (2 * l + c) (by omega)
    rw [show (2 * l + c) / 2 = l by omega, hs] at hch
    have hcB := hV.bCh (2 * l + c)
    cases hw : inZ w (nI 0) (nI 1) with
    | false =>
      rw [show stDisturb s (nI l) (nI c) w = (1, 0, s) by unfold stDisturb; rw [hx, hw]; rfl]
      exact CallR.E (CallR.up (c_Mod_disturb1 hI hR.ln hl hc hx hw) (by decide) (by decide)) ⟨_, _, _, rfl, hR, rfl⟩
    | true =>
      obtain ⟨p, _, hp, rfl⟩ := inZ_w (by decide) (by decide) hw
      have e0 : stDisturb s (nI l) (nI c) (nI p) = match cWire (sCh s (2 * l + c)) with
        | [] => (0, 0, s)
        | f :: w => if nI p = 0 then (0, 1, ch1 s (2 * l + c) (wWire (sCh s (2 * l + c)) w)) else if w.length = 199 then (0, 0, s) else (0, 1, ch1 s (2 * l + c) (wWire (sCh s (2 * l + c)) (f :: f :: w))) := by
        unfold stDisturb
        rw [hx, hw, nN_nI (by omega), nN_nI (by omega)]
        rfl
      rw [e0]
      have hn := hch.2.2.2.1
      have hwl := hcB.2.2.2.2.2.1
      cases hwr : cWire (sCh s (2 * l + c)) with
      | nil =>
        rw [hwr] at hn
        exact CallR.E (CallR.up (c_Mod_disturb2 hI hR.ln hl hc hx hp hn) (by decide) (by decide)) ⟨_, _, _, rfl, hR, rfl⟩
      | cons f w =>
        have hlen : (cWire (sCh s (2 * l + c))).length = w.length + 1 := by rw [hwr]; rfl
        obtain rfl | rfl : p = 0 ∨ p = 1 := by omega
        · simp only [nI_0, if_true]
          refine CallR.E (CallR.up (c_Mod_disturb4 hI hR.ln hl hc hx hn hwl (by omega)) (by decide) (by decide)) ⟨_, _, _, rfl, ?_, rfl⟩
          exact rep_ch (Fi := (va_up (va_up Fi 0 (nI 0)) 0 (nI 0))) hR (chB hV) (agr_take hwl) (by rw [show (2 * l + c) / 2 = l by omega, hs]; exact RC_take hwr hch)
        · have h10 : ¬ nI 1 = 0 := by decide
          simp only [h10, if_false]
          by_cases h9 : w.length = 199
          · rw [if_pos h9]
            rw [hlen, h9] at hn
            exact CallR.E (CallR.up (c_Mod_disturb3 hI hR.ln hl hc hx hn) (by decide) (by decide)) ⟨_, _, _, rfl, hR, rfl⟩
          · rw [if_neg h9]
            refine CallR.E (CallR.up (c_Mod_disturb5 hI hR.ln hl hc hx hn (by omega) (by omega)) (by decide) (by decide)) ⟨_, _, _, rfl, ?_, rfl⟩
            exact rep_ch (Fi := (va_up (va_up Fi 0 (nI 0)) 0 (nI 0))) hR (chB hV) (agr_dbl (by omega)) (by rw [show (2 * l + c) / 2 = l by omega, hs]; exact RC_dbl hwr hch)
end Mod18
