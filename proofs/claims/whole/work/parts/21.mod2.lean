section Mod2
theorem inZ_nI {a lo hi : Nat} (ha : a < 2 ^ 31) (hl : lo < 2 ^ 31) (hh : hi < 2 ^ 31) : inZ (nI a) (nI lo) (nI hi) = decide (lo ≤ a ∧ a ≤ hi) := by
  unfold inZ
  simp only [nI_leI hl ha, nI_leI ha hh]
theorem c_Mod_inT {G : Gt} {h : AHp} {a lo hi : Nat} (h1 : lo ≤ a) (h2 : a ≤ hi) (h3 : hi < 2 ^ 31) : CallR G m_Mod_in 0 0 [.int (nI a), .int (nI lo), .int (nI hi)] h 0 0 (some (.int (bI true))) h :=
  CallR.eq (c_Mod_in (nI a) (nI lo) (nI hi)) (by rw [inZ_nI (by omega) (by omega) h3]; simp [h1, h2]) rfl
theorem c_Mod_inF {G : Gt} {h : AHp} {x lo hi : Int32} (hx : inZ x lo hi = false) : CallR G m_Mod_in 0 0 [.int x, .int lo, .int hi] h 0 0 (some (.int (bI false))) h :=
  CallR.eq (c_Mod_in x lo hi) (by rw [hx]) rfl
/-- an int within 0 .. n is a number -/
theorem inZ_of {x : Int32} {n : Nat} (hn : n < 2 ^ 31) (h : inZ x (nI 0) (nI n) = true) : ∃ j, j ≤ n ∧ x = nI j := by
  unfold inZ at h
  simp only [decide_eq_true_eq] at h
  obtain ⟨h1, h2⟩ := h
  rw [nI_0] at h1
  have h3 : ¬ x < 0 := by rw [Int32.not_lt]; exact h1
  obtain ⟨j, hj, rfl⟩ := nI_of h3
  exact ⟨j, (nI_leI hj hn).mp h2, rfl⟩
set_option maxRecDepth 20000 in
theorem c_Mod_hasLine {G : Gt} {o : Nat} {A : Nat → Nat} {Fi : Nat → Int32} {M : Nat → Nat → Int32} {Ml : Nat → Nat → Int64} (hI : mInj o A) {j : Nat} {b : Bool} (hj : j < 8) (hb : M 6 j = bI b) : CallR G m_Mod_hasLine 1 14 [.ref o, .int (nI j)] (hM o A Fi M Ml) 0 0 (some (.int (bI b))) (hM o A Fi M Ml) := by
  refine CallS.of (Nat.le_of_ble_eq_true rfl) ?_
  refine wp_iload_n d_Mod_hasLine_0 rfl 1 rfl ?_
  refine wp_iconst (v := nI 0) d_Mod_hasLine_1 (by decide) ?_
  refine wp_bipush (v := nI 7) d_Mod_hasLine_2 (by decide) ?_
  refine wp_callV (r := 0) d_Mod_hasLine_4 (link_S (av := [.int (nI j), .int (nI 0), .int (nI 7)]) (rest := []) d_Mod_hasLine_4 cal_Mod_in wM_Mod_115 rfl) cal_Mod_in (c_Mod_inT (by omega) (by omega) (by omega)) (Nat.le_of_ble_eq_true rfl) ⟨Nat.le_of_ble_eq_true rfl, Nat.le_of_ble_eq_true rfl⟩ ?_
  refine wp_if_eqB (tgt := 23) d_Mod_hasLine_7 (by decide) (fun c => absurd c (by decide)) (fun _ => ?_)
  refine wp_aload_n d_Mod_hasLine_10 rfl 0 rfl ?_
  refine wm_get d_Mod_hasLine_11 6 (by decide) wF_Mod_19 rfl ?_
  refine wp_iload_n d_Mod_hasLine_14 rfl 1 rfl ?_
  refine wm_zld (j := 6) (x := (bI b)) d_Mod_hasLine_15 hI (by decide) (by decide) (by show _ < 8; omega) (by decide) (hb) ?_
  refine wp_if_eqB (tgt := 23) d_Mod_hasLine_16 (by decide) (fun c16 => ?_) (fun c16 => ?_)
  · refine wp_iconst (v := nI 0) d_Mod_hasLine_23 (by decide) ?_
    exact wp_zret (ty := .boolean) d_Mod_hasLine_24 rfl rfl ⟨resI (bI_zero (by grind)), rfl⟩
  · refine wp_iconst (v := nI 1) d_Mod_hasLine_19 (by decide) ?_
    refine wp_goto (tgt := 24) d_Mod_hasLine_20 (by decide) ?_
    exact wp_zret (ty := .boolean) d_Mod_hasLine_24 rfl rfl ⟨resI (bI_one (by grind)), rfl⟩
set_option maxRecDepth 20000 in
theorem c_Mod_hasLineX {G : Gt} {o : Nat} {A : Nat → Nat} {Fi : Nat → Int32} {M : Nat → Nat → Int32} {Ml : Nat → Nat → Int64} {x : Int32} (hx : inZ x (nI 0) (nI 7) = false) : CallR G m_Mod_hasLine 1 14 [.ref o, .int x] (hM o A Fi M Ml) 0 0 (some (.int (bI false))) (hM o A Fi M Ml) := by
  refine CallS.of (Nat.le_of_ble_eq_true rfl) ?_
  refine wp_iload_n d_Mod_hasLine_0 rfl 1 rfl ?_
  refine wp_iconst (v := nI 0) d_Mod_hasLine_1 (by decide) ?_
  refine wp_bipush (v := nI 7) d_Mod_hasLine_2 (by decide) ?_
  refine wp_callV (r := 0) d_Mod_hasLine_4 (link_S (av := [.int x, .int (nI 0), .int (nI 7)]) (rest := []) d_Mod_hasLine_4 cal_Mod_in wM_Mod_115 rfl) cal_Mod_in (c_Mod_inF hx) (Nat.le_of_ble_eq_true rfl) ⟨Nat.le_of_ble_eq_true rfl, Nat.le_of_ble_eq_true rfl⟩ ?_
  refine wp_if_eqB (tgt := 23) d_Mod_hasLine_7 (by decide) (fun _ => ?_) (fun c => absurd c (by decide))
  refine wp_iconst (v := nI 0) d_Mod_hasLine_23 (by decide) ?_
  exact wp_zret (ty := .boolean) d_Mod_hasLine_24 rfl rfl ⟨resI (bI_zero (rfl)), rfl⟩
set_option maxRecDepth 20000 in
theorem c_Mod_isAt {G : Gt} {o : Nat} {A : Nat → Nat} {Fi : Nat → Int32} {M : Nat → Nat → Int32} {Ml : Nat → Nat → Int64} (hI : mInj o A) {l x a e : Nat} {b : Bool} (hl : l < 8) (hx : x < 6) (hb : M 6 l = bI b) (ha : b = true → M 7 l = nI a ∧ M 8 l = nI e ∧ a < 6 ∧ e < 6) : CallR G m_Mod_isAt 2 27 [.ref o, .int (nI l), .int (nI x)] (hM o A Fi M Ml) 0 0 (some (.int (bI (b && (a == x || e == x))))) (hM o A Fi M Ml) := by
  refine CallS.of (Nat.le_of_ble_eq_true rfl) ?_
  refine wp_aload_n d_Mod_isAt_0 rfl 0 rfl ?_
  refine wp_iload_n d_Mod_isAt_1 rfl 1 rfl ?_
  refine wp_callV (r := 0) d_Mod_isAt_2 (link_V (as := [.int (nI l)]) (rest := []) (r := (R_Mod, T_Mod, 43)) d_Mod_isAt_2 cal_Mod_hasLine wM_Mod_119 rfl hM_o rfl) cal_Mod_hasLine (c_Mod_hasLine hI (by omega) hb) (Nat.le_of_ble_eq_true rfl) ⟨Nat.le_of_ble_eq_true rfl, Nat.le_of_ble_eq_true rfl⟩ ?_
  refine wp_if_eqB (tgt := 32) d_Mod_isAt_5 (by decide) (fun c5 => ?_) (fun c5 => ?_)
  · refine wp_iconst (v := nI 0) d_Mod_isAt_32 (by decide) ?_
    exact wp_zret (ty := .boolean) d_Mod_isAt_33 rfl rfl ⟨resI (bI_zero (by grind)), rfl⟩
  · have hae := ha c5
    refine wp_aload_n d_Mod_isAt_8 rfl 0 rfl ?_
    refine wm_get d_Mod_isAt_9 7 (by decide) wF_Mod_23 rfl ?_
    refine wp_iload_n d_Mod_isAt_12 rfl 1 rfl ?_
    refine wm_ild (j := 7) (x := (nI a)) d_Mod_isAt_13 hI (by decide) (by decide) (by show _ < 8; omega) (by decide) ((ha c5).1) ?_
    refine wp_iload_n d_Mod_isAt_14 rfl 2 rfl ?_
    refine wp_eqN (tgt := 28) d_Mod_isAt_15 (by decide) (by omega) (by omega) (fun c15 => ?_) (fun c15 => ?_)
    · refine wp_iconst (v := nI 1) d_Mod_isAt_28 (by decide) ?_
      refine wp_goto (tgt := 33) d_Mod_isAt_29 (by decide) ?_
      exact wp_zret (ty := .boolean) d_Mod_isAt_33 rfl rfl ⟨resI (bI_one (by grind)), rfl⟩
    · refine wp_aload_n d_Mod_isAt_18 rfl 0 rfl ?_
      refine wm_get d_Mod_isAt_19 8 (by decide) wF_Mod_26 rfl ?_
      refine wp_iload_n d_Mod_isAt_22 rfl 1 rfl ?_
      refine wm_ild (j := 8) (x := (nI e)) d_Mod_isAt_23 hI (by decide) (by decide) (by show _ < 8; omega) (by decide) ((ha c5).2.1) ?_
      refine wp_iload_n d_Mod_isAt_24 rfl 2 rfl ?_
      refine wp_neN (tgt := 32) d_Mod_isAt_25 (by decide) (by omega) (by omega) (fun c25 => ?_) (fun c25 => ?_)
      · refine wp_iconst (v := nI 0) d_Mod_isAt_32 (by decide) ?_
        exact wp_zret (ty := .boolean) d_Mod_isAt_33 rfl rfl ⟨resI (bI_zero (by grind)), rfl⟩
      · refine wp_iconst (v := nI 1) d_Mod_isAt_28 (by decide) ?_
        refine wp_goto (tgt := 33) d_Mod_isAt_29 (by decide) ?_
        exact wp_zret (ty := .boolean) d_Mod_isAt_33 rfl rfl ⟨resI (bI_one (by grind)), rfl⟩
set_option maxRecDepth 20000 in
theorem c_Mod_isAtX {G : Gt} {o : Nat} {A : Nat → Nat} {Fi : Nat → Int32} {M : Nat → Nat → Int32} {Ml : Nat → Nat → Int64} {x s : Int32} (hx : inZ x (nI 0) (nI 7) = false) : CallR G m_Mod_isAt 2 27 [.ref o, .int x, .int s] (hM o A Fi M Ml) 0 0 (some (.int (bI false))) (hM o A Fi M Ml) := by
  refine CallS.of (Nat.le_of_ble_eq_true rfl) ?_
  refine wp_aload_n d_Mod_isAt_0 rfl 0 rfl ?_
  refine wp_iload_n d_Mod_isAt_1 rfl 1 rfl ?_
  refine wp_callV (r := 0) d_Mod_isAt_2 (link_V (as := [.int x]) (rest := []) (r := (R_Mod, T_Mod, 43)) d_Mod_isAt_2 cal_Mod_hasLine wM_Mod_119 rfl hM_o rfl) cal_Mod_hasLine (c_Mod_hasLineX hx) (Nat.le_of_ble_eq_true rfl) ⟨Nat.le_of_ble_eq_true rfl, Nat.le_of_ble_eq_true rfl⟩ ?_
  refine wp_if_eqB (tgt := 32) d_Mod_isAt_5 (by decide) (fun _ => ?_) (fun c => absurd c (by decide))
  refine wp_iconst (v := nI 0) d_Mod_isAt_32 (by decide) ?_
  exact wp_zret (ty := .boolean) d_Mod_isAt_33 rfl rfl ⟨resI (bI_zero (rfl)), rfl⟩
end Mod2
