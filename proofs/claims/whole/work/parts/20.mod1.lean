section Mod1
def inZ (x lo hi : Int32) : Bool := decide (lo ≤ x ∧ x ≤ hi)
theorem inZ_t {x lo hi : Int32} (h1 : ¬ x < lo) (h2 : ¬ hi < x) : inZ x lo hi = true := by
  rw [Int32.not_lt] at h1 h2
  simp [inZ, h1, h2]
theorem inZ_f1 {x lo hi : Int32} (h1 : x < lo) : inZ x lo hi = false := by
  have : ¬ lo ≤ x := by rw [Int32.not_le]; exact h1
  simp [inZ, this]
theorem inZ_f2 {x lo hi : Int32} (h1 : hi < x) : inZ x lo hi = false := by
  have : ¬ x ≤ hi := by rw [Int32.not_le]; exact h1
  simp [inZ, this]
set_option maxRecDepth 20000 in
theorem c_Mod_in {G : Gt} {h : AHp} (x lo hi : Int32) : CallR G m_Mod_in 0 0 [.int x, .int lo, .int hi] h 0 0 (some (.int (bI (inZ x lo hi)))) h := by
  refine CallS.of (Nat.le_of_ble_eq_true rfl) ?_
  refine wp_iload_n d_Mod_in_0 rfl 0 rfl ?_
  refine wp_iload_n d_Mod_in_1 rfl 1 rfl ?_
  refine wp_icmp_lt (tgt := 14) d_Mod_in_2 (by decide) (fun c2 => ?_) (fun c2 => ?_)
  · refine wp_iconst (v := nI 0) d_Mod_in_14 (by decide) ?_
    exact wp_zret (ty := .boolean) d_Mod_in_15 rfl rfl ⟨resI (bI_zero (by first | exact inZ_f2 c7 | exact inZ_f1 c2)), rfl⟩
  · refine wp_iload_n d_Mod_in_5 rfl 0 rfl ?_
    refine wp_iload_n d_Mod_in_6 rfl 2 rfl ?_
    refine wp_icmp_gt (tgt := 14) d_Mod_in_7 (by decide) (fun c7 => ?_) (fun c7 => ?_)
    · refine wp_iconst (v := nI 0) d_Mod_in_14 (by decide) ?_
      exact wp_zret (ty := .boolean) d_Mod_in_15 rfl rfl ⟨resI (bI_zero (by first | exact inZ_f2 c7 | exact inZ_f1 c2)), rfl⟩
    · refine wp_iconst (v := nI 1) d_Mod_in_10 (by decide) ?_
      refine wp_goto (tgt := 15) d_Mod_in_11 (by decide) ?_
      exact wp_zret (ty := .boolean) d_Mod_in_15 rfl rfl ⟨resI (bI_one (inZ_t c2 c7)), rfl⟩
def swZ (x : Int32) : Bool := inZ x (nI 0) (nI 5)
set_option maxRecDepth 20000 in
theorem c_Mod_isSwitch {G : Gt} {h : AHp} (x : Int32) : CallR G m_Mod_isSwitch 1 14 [.int x] h 0 0 (some (.int (bI (inZ x (nI 0) (nI 5))))) h := by
  refine CallS.of (Nat.le_of_ble_eq_true rfl) ?_
  refine wp_iload_n d_Mod_isSwitch_0 rfl 0 rfl ?_
  refine wp_iconst (v := nI 0) d_Mod_isSwitch_1 (by decide) ?_
  refine wp_iconst (v := nI 5) d_Mod_isSwitch_2 (by decide) ?_
  refine wp_callV (r := 0) d_Mod_isSwitch_3 (link_S (av := [.int x, .int (nI 0), .int (nI 5)]) (rest := []) d_Mod_isSwitch_3 cal_Mod_in wM_Mod_115 rfl) cal_Mod_in (c_Mod_in x (nI 0) (nI 5)) (Nat.le_of_ble_eq_true rfl) ⟨Nat.le_of_ble_eq_true rfl, Nat.le_of_ble_eq_true rfl⟩ ?_
  exact wp_zret (ty := .boolean) d_Mod_isSwitch_6 rfl (narB' _) ⟨rfl, rfl⟩
set_option maxRecDepth 20000 in
theorem c_Mod_isLetter {G : Gt} {h : AHp} (x : Int32) : CallR G m_Mod_isLetter 1 14 [.int x] h 0 0 (some (.int (bI (inZ x (nI 65) (nI 90))))) h := by
  refine CallS.of (Nat.le_of_ble_eq_true rfl) ?_
  refine wp_iload_n d_Mod_isLetter_0 rfl 0 rfl ?_
  refine wp_bipush (v := nI 65) d_Mod_isLetter_1 (by decide) ?_
  refine wp_bipush (v := nI 90) d_Mod_isLetter_3 (by decide) ?_
  refine wp_callV (r := 0) d_Mod_isLetter_5 (link_S (av := [.int x, .int (nI 65), .int (nI 90)]) (rest := []) d_Mod_isLetter_5 cal_Mod_in wM_Mod_115 rfl) cal_Mod_in (c_Mod_in x (nI 65) (nI 90)) (Nat.le_of_ble_eq_true rfl) ⟨Nat.le_of_ble_eq_true rfl, Nat.le_of_ble_eq_true rfl⟩ ?_
  exact wp_zret (ty := .boolean) d_Mod_isLetter_8 rfl (narB' _) ⟨rfl, rfl⟩
set_option maxRecDepth 20000 in
theorem c_Mod_isDigit {G : Gt} {h : AHp} (x : Int32) : CallR G m_Mod_isDigit 1 14 [.int x] h 0 0 (some (.int (bI (inZ x (nI 48) (nI 57))))) h := by
  refine CallS.of (Nat.le_of_ble_eq_true rfl) ?_
  refine wp_iload_n d_Mod_isDigit_0 rfl 0 rfl ?_
  refine wp_bipush (v := nI 48) d_Mod_isDigit_1 (by decide) ?_
  refine wp_bipush (v := nI 57) d_Mod_isDigit_3 (by decide) ?_
  refine wp_callV (r := 0) d_Mod_isDigit_5 (link_S (av := [.int x, .int (nI 48), .int (nI 57)]) (rest := []) d_Mod_isDigit_5 cal_Mod_in wM_Mod_115 rfl) cal_Mod_in (c_Mod_in x (nI 48) (nI 57)) (Nat.le_of_ble_eq_true rfl) ⟨Nat.le_of_ble_eq_true rfl, Nat.le_of_ble_eq_true rfl⟩ ?_
  exact wp_zret (ty := .boolean) d_Mod_isDigit_8 rfl (narB' _) ⟨rfl, rfl⟩
set_option maxRecDepth 20000 in
theorem c_Mod_thrown {G : Gt} {o : Nat} {A : Nat → Nat} {Fi : Nat → Int32} {M : Nat → Nat → Int32} {Ml : Nat → Nat → Int64} : CallR G m_Mod_thrown 0 0 [.ref o] (hM o A Fi M Ml) 0 0 (some (.int (Fi 0))) (hM o A Fi M Ml) := by
  refine CallS.of (Nat.le_of_ble_eq_true rfl) ?_
  refine wp_aload_n d_Mod_thrown_0 rfl 0 rfl ?_
  refine wm_get d_Mod_thrown_1 0 (by decide) wF_Mod_111 rfl ?_
  exact wp_iret d_Mod_thrown_4 rfl ⟨rfl, rfl⟩
set_option maxRecDepth 20000 in
theorem c_Mod_raise {G : Gt} {o : Nat} {A : Nat → Nat} {Fi : Nat → Int32} {M : Nat → Nat → Int32} {Ml : Nat → Nat → Int64} (x : Int32) : CallR G m_Mod_raise 0 0 [.ref o, .int x] (hM o A Fi M Ml) 0 0 (some (.int (nI 0))) (hM o A (va_up Fi 0 x) M Ml) := by
  refine CallS.of (Nat.le_of_ble_eq_true rfl) ?_
  refine wp_aload_n d_Mod_raise_0 rfl 0 rfl ?_
  refine wp_iload_n d_Mod_raise_1 rfl 1 rfl ?_
  refine wm_put (Fi' := va_up Fi 0 x) d_Mod_raise_2 0 (by decide) wF_Mod_111 rfl (by decide) rfl ?_
  refine wp_iconst (v := nI 0) d_Mod_raise_5 (by decide) ?_
  exact wp_iret d_Mod_raise_6 rfl ⟨rfl, rfl⟩
end Mod1
