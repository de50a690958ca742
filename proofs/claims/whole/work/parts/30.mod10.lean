section Mod10
def encC (c : Nat × Nat × Nat × Nat) : Nat := c.1 * 2 ^ 20 + c.2.1 * 2 ^ 12 + c.2.2.1 * 2 ^ 4 + c.2.2.2
def encK (kind serial m set : Nat) : Nat := kind * 2 ^ 28 + serial * 2 ^ 16 + m * 2 ^ 8 + set
/-- the line that a copy came by, as the reference has it: -1 for none -/
def byI (n : Nat) : Int32 := if n = 0 then -1 else nI (n - 1)
theorem byI_1 {n : Nat} : byI n + nI 1 = nI n := by
  unfold byI
  split
  · rename_i h
    subst h
    rfl
  · rw [nI_add, show n - 1 + 1 = n by omega]
theorem nI_m1 {j : Nat} (hj : j < 2 ^ 31) : ¬ nI j = -1 := by
  intro h
  have := congrArg Int32.toInt h
  rw [nI_toInt hj] at this
  have e : (-1 : Int32).toInt = -1 := by decide
  omega
theorem byI_eq {j n : Nat} (hj : j < 2 ^ 30) (hn : n < 2 ^ 30) : nI j = byI n ↔ j + 1 = n := by
  unfold byI
  split
  · rename_i h
    constructor
    · intro h2
      exact absurd h2 (nI_m1 (by omega))
    · intro h2
      omega
  · rw [nI_eq (by omega) (by omega)]
    omega
theorem or3 {a b c d : Nat} (hb : b < 2 ^ 8) (hc : c < 2 ^ 8) (hd : d < 2 ^ 4) : ((a * 2 ^ 20 ||| b * 2 ^ 12) ||| c * 2 ^ 4) ||| d = encC (a, b, c, d) := by
  have e1 : a * 2 ^ 20 ||| b * 2 ^ 12 = (a * 2 ^ 8 + b) * 2 ^ 12 := by rw [or_add (by omega)]; omega
  have e2 : (a * 2 ^ 8 + b) * 2 ^ 12 ||| c * 2 ^ 4 = ((a * 2 ^ 8 + b) * 2 ^ 8 + c) * 2 ^ 4 := by rw [or_add (by omega)]; omega
  rw [e1, e2, or_add hd]
  simp only [encC]
  omega
theorem or4 {a b c d : Nat} (hb : b < 2 ^ 12) (hc : c < 2 ^ 8) (hd : d < 2 ^ 8) : ((a * 2 ^ 28 ||| b * 2 ^ 16) ||| c * 2 ^ 8) ||| d = encK a b c d := by
  have e1 : a * 2 ^ 28 ||| b * 2 ^ 16 = (a * 2 ^ 12 + b) * 2 ^ 16 := by rw [or_add (by omega)]; omega
  have e2 : (a * 2 ^ 12 + b) * 2 ^ 16 ||| c * 2 ^ 8 = ((a * 2 ^ 12 + b) * 2 ^ 8 + c) * 2 ^ 8 := by rw [or_add (by omega)]; omega
  rw [e1, e2, or_add hd]
  simp only [encK]
  omega
set_option maxRecDepth 20000 in
theorem c_Mod_wait {G : Gt} {o : Nat} {A : Nat → Nat} {Fi : Nat → Int32} {M : Nat → Nat → Int32} {Ml : Nat → Nat → Int64} (hI : mInj o A) {wh m set by1 n : Nat} (hn : Fi 22 = nI n) (hn2 : n < 2000) (hwh : wh < 22) (hm : m < 2 ^ 8) (hset : set < 2 ^ 8) (hby : by1 < 2 ^ 4) : CallR G m_Mod_wait 0 0 [.ref o, .int (nI wh), .int (nI m), .int (nI set), .int (byI by1)] (hM o A Fi M Ml) 0 0 none (hM o A (va_up Fi 22 (nI (n + 1))) (u2 M 23 n (nI (encC (wh, m, set, by1)))) Ml) := by
  refine CallS.of (Nat.le_of_ble_eq_true rfl) ?_
  refine wp_aload_n d_Mod_wait_0 rfl 0 rfl ?_
  refine wm_get d_Mod_wait_1 23 (by decide) wF_Mod_66 rfl ?_
  refine wp_aload_n d_Mod_wait_4 rfl 0 rfl ?_
  refine wm_get d_Mod_wait_5 22 (by decide) wF_Mod_202 rfl ?_
  refine wp_toI (z := (nI n)) (hn) ?_
  refine wp_iload_n d_Mod_wait_8 rfl 1 rfl ?_
  refine wp_bipush (v := nI 20) d_Mod_wait_9 (by decide) ?_
  refine wp_ishlN d_Mod_wait_11 (by omega) (by omega) ?_
  refine wp_iload_n d_Mod_wait_12 rfl 2 rfl ?_
  refine wp_bipush (v := nI 12) d_Mod_wait_13 (by decide) ?_
  refine wp_ishlN d_Mod_wait_15 (by omega) (by omega) ?_
  refine wp_iorN d_Mod_wait_16 ?_
  refine wp_iload_n d_Mod_wait_17 rfl 3 rfl ?_
  refine wp_iconst (v := nI 4) d_Mod_wait_18 (by decide) ?_
  refine wp_ishlN d_Mod_wait_19 (by omega) (by omega) ?_
  refine wp_iorN d_Mod_wait_20 ?_
  refine wp_iload d_Mod_wait_21 4 rfl ?_
  refine wp_iconst (v := nI 1) d_Mod_wait_23 (by decide) ?_
  refine wp_iadd d_Mod_wait_24 ?_
  refine wp_toI (z := (nI by1)) (byI_1) ?_
  refine wp_iorN d_Mod_wait_25 ?_
  refine wp_toI (z := (nI (encC (wh, m, set, by1)))) (by rw [or3 hm hset hby]) ?_
  refine wm_ist (j := 23) d_Mod_wait_26 hI (by decide) (by decide) (by show _ < 2000; omega) (by decide) ?_
  refine wp_aload_n d_Mod_wait_27 rfl 0 rfl ?_
  refine wp_dup d_Mod_wait_28 rfl ?_
  refine wm_get d_Mod_wait_29 22 (by decide) wF_Mod_202 rfl ?_
  refine wp_toI (z := (nI n)) (hn) ?_
  refine wp_iconst (v := nI 1) d_Mod_wait_32 (by decide) ?_
  refine wp_iaddN d_Mod_wait_33 ?_
  refine wm_put (Fi' := va_up Fi 22 (nI (n + 1))) d_Mod_wait_34 22 (by decide) wF_Mod_202 rfl (by decide) rfl ?_
  exact wp_vret d_Mod_wait_37 rfl ⟨rfl, rfl⟩
set_option maxRecDepth 20000 in
theorem c_Mod_takes0 {G : Gt} {o : Nat} {A : Nat → Nat} {Fi : Nat → Int32} {M : Nat → Nat → Int32} {Ml : Nat → Nat → Int64} {b : Int32} : CallR G m_Mod_takes 0 0 [.ref o, .int (-1), .int b] (hM o A Fi M Ml) 0 0 (some (.int (bI false))) (hM o A Fi M Ml) := by
  refine CallS.of (Nat.le_of_ble_eq_true rfl) ?_
  refine wp_iload_n d_Mod_takes_0 rfl 1 rfl ?_
  refine wp_iconst (v := -1) d_Mod_takes_1 (by decide) ?_
  refine wp_icmp_eq (tgt := 23) d_Mod_takes_2 (by decide) (fun _ => ?_) (fun c => absurd c (by decide))
  refine wp_iconst (v := nI 0) d_Mod_takes_23 (by decide) ?_
  exact wp_zret (ty := .boolean) d_Mod_takes_24 rfl rfl ⟨resI (bI_zero (rfl)), rfl⟩
set_option maxRecDepth 20000 in
theorem c_Mod_takes {G : Gt} {o : Nat} {A : Nat → Nat} {Fi : Nat → Int32} {M : Nat → Nat → Int32} {Ml : Nat → Nat → Int64} (hI : mInj o A) {j by1 : Nat} {sv : Bool} (hj : j < 8) (hby : by1 < 2 ^ 4) (hs : M 9 j = bI sv) : CallR G m_Mod_takes 0 0 [.ref o, .int (nI j), .int (byI by1)] (hM o A Fi M Ml) 0 0 (some (.int (bI (!(j + 1 == by1) && sv)))) (hM o A Fi M Ml) := by
  refine CallS.of (Nat.le_of_ble_eq_true rfl) ?_
  refine wp_iload_n d_Mod_takes_0 rfl 1 rfl ?_
  refine wp_iconst (v := -1) d_Mod_takes_1 (by decide) ?_
  refine wp_icmp_eq (tgt := 23) d_Mod_takes_2 (by decide) (fun c => absurd c (nI_m1 (by omega))) (fun _ => ?_)
  refine wp_iload_n d_Mod_takes_5 rfl 1 rfl ?_
  refine wp_iload_n d_Mod_takes_6 rfl 2 rfl ?_
  refine wp_icmp_eq (tgt := 23) d_Mod_takes_7 (by decide) (fun c7 => ?_) (fun c7 => ?_)
  · refine wp_iconst (v := nI 0) d_Mod_takes_23 (by decide) ?_
    exact wp_zret (ty := .boolean) d_Mod_takes_24 rfl rfl ⟨resI (bI_zero (by have e := byI_eq (j := j) (n := by1) (by omega) (by omega); simp_all)), rfl⟩
  · refine wp_aload_n d_Mod_takes_10 rfl 0 rfl ?_
    refine wm_get d_Mod_takes_11 9 (by decide) wF_Mod_29 rfl ?_
    refine wp_iload_n d_Mod_takes_14 rfl 1 rfl ?_
    refine wm_zld (j := 9) (x := (bI sv)) d_Mod_takes_15 hI (by decide) (by decide) (by show _ < 8; omega) (by decide) (hs) ?_
    refine wp_if_eqB (tgt := 23) d_Mod_takes_16 (by decide) (fun c16 => ?_) (fun c16 => ?_)
    · refine wp_iconst (v := nI 0) d_Mod_takes_23 (by decide) ?_
      exact wp_zret (ty := .boolean) d_Mod_takes_24 rfl rfl ⟨resI (bI_zero (by have e := byI_eq (j := j) (n := by1) (by omega) (by omega); simp_all)), rfl⟩
    · refine wp_iconst (v := nI 1) d_Mod_takes_19 (by decide) ?_
      refine wp_goto (tgt := 24) d_Mod_takes_20 (by decide) ?_
      exact wp_zret (ty := .boolean) d_Mod_takes_24 rfl rfl ⟨resI (bI_one (by have e := byI_eq (j := j) (n := by1) (by omega) (by omega); simp_all)), rfl⟩
set_option maxRecDepth 20000 in
theorem c_Mod_behind {G : Gt} {h : AHp} {x : Nat} (hx : x < 2 ^ 30) : CallR G m_Mod_behind 0 0 [.int (nI x)] h 0 0 (some (.int (nI (x % 999 + 1)))) h := by
  refine CallS.of (Nat.le_of_ble_eq_true rfl) ?_
  refine wp_iload_n d_Mod_behind_0 rfl 0 rfl ?_
  refine wp_sipush (v := nI 999) d_Mod_behind_1 (by decide) ?_
  refine wp_iremN d_Mod_behind_4 (by omega) (by omega) (by omega) ?_
  refine wp_iconst (v := nI 1) d_Mod_behind_5 (by decide) ?_
  refine wp_iaddN d_Mod_behind_6 ?_
  exact wp_iret d_Mod_behind_7 rfl ⟨rfl, rfl⟩
def layM (M : Nat → Nat → Int32) (c n e : Nat) : Nat → Nat → Int32 := if n = 200 then M else u2 (u2 M 29 (200 * c + n) (nI e)) 28 c (nI (n + 1))
theorem layM_ne {M : Nat → Nat → Int32} {c n e a : Nat} (h1 : a ≠ 28) (h2 : a ≠ 29) : layM M c n e a = M a := by
  unfold layM
  split
  · rfl
  · rw [u2_ne _ _ h1, u2_ne _ _ h2]
set_option maxRecDepth 20000 in
theorem c_Mod_lay {G : Gt} {o : Nat} {A : Nat → Nat} {Fi : Nat → Int32} {M : Nat → Nat → Int32} {Ml : Nat → Nat → Int64} (hI : mInj o A) {c kind serial m set n : Nat} (hc : c < 16) (hn : M 28 c = nI n) (hn2 : n ≤ 200) (hk : kind < 3) (hse : serial < 2 ^ 12) (hm : m < 2 ^ 8) (hset : set < 2 ^ 8) : CallR G m_Mod_lay 0 0 [.ref o, .int (nI c), .int (nI kind), .int (nI serial), .int (nI m), .int (nI set)] (hM o A Fi M Ml) 0 0 none (hM o A Fi (layM M c n (encK kind serial m set)) Ml) := by
  refine CallS.of (Nat.le_of_ble_eq_true rfl) ?_
  refine wp_aload_n d_Mod_lay_0 rfl 0 rfl ?_
  refine wm_get d_Mod_lay_1 28 (by decide) wF_Mod_81 rfl ?_
  refine wp_iload_n d_Mod_lay_4 rfl 1 rfl ?_
  refine wm_ild (j := 28) (x := (nI n)) d_Mod_lay_5 hI (by decide) (by decide) (by show _ < 16; omega) (by decide) (hn) ?_
  refine wp_sipush (v := nI 200) d_Mod_lay_6 (by decide) ?_
  refine wp_neN (tgt := 13) d_Mod_lay_9 (by decide) (by omega) (by omega) (fun c9 => ?_) (fun c9 => ?_)
  · refine wp_aload_n d_Mod_lay_13 rfl 0 rfl ?_
    refine wm_get d_Mod_lay_14 29 (by decide) wF_Mod_84 rfl ?_
    refine wp_sipush (v := nI 200) d_Mod_lay_17 (by decide) ?_
    refine wp_iload_n d_Mod_lay_20 rfl 1 rfl ?_
    refine wp_imulN d_Mod_lay_21 ?_
    refine wp_aload_n d_Mod_lay_22 rfl 0 rfl ?_
    refine wm_get d_Mod_lay_23 28 (by decide) wF_Mod_81 rfl ?_
    refine wp_iload_n d_Mod_lay_26 rfl 1 rfl ?_
    refine wm_ild (j := 28) (x := (nI n)) d_Mod_lay_27 hI (by decide) (by decide) (by show _ < 16; omega) (by decide) (hn) ?_
    refine wp_iaddN d_Mod_lay_28 ?_
    refine wp_iload_n d_Mod_lay_29 rfl 2 rfl ?_
    refine wp_bipush (v := nI 28) d_Mod_lay_30 (by decide) ?_
    refine wp_ishlN d_Mod_lay_32 (by omega) (by omega) ?_
    refine wp_iload_n d_Mod_lay_33 rfl 3 rfl ?_
    refine wp_bipush (v := nI 16) d_Mod_lay_34 (by decide) ?_
    refine wp_ishlN d_Mod_lay_36 (by omega) (by omega) ?_
    refine wp_iorN d_Mod_lay_37 ?_
    refine wp_iload d_Mod_lay_38 4 rfl ?_
    refine wp_bipush (v := nI 8) d_Mod_lay_40 (by decide) ?_
    refine wp_ishlN d_Mod_lay_42 (by omega) (by omega) ?_
    refine wp_iorN d_Mod_lay_43 ?_
    refine wp_iload d_Mod_lay_44 5 rfl ?_
    refine wp_iorN d_Mod_lay_46 ?_
    refine wp_toI (z := (nI (encK kind serial m set))) (by rw [or4 hse hm hset]) ?_
    refine wm_ist (j := 29) d_Mod_lay_47 hI (by decide) (by decide) (by show _ < 3200; omega) (by decide) ?_
    refine wp_aload_n d_Mod_lay_48 rfl 0 rfl ?_
    refine wm_get d_Mod_lay_49 28 (by decide) wF_Mod_81 rfl ?_
    refine wp_iload_n d_Mod_lay_52 rfl 1 rfl ?_
    refine wp_dup2 d_Mod_lay_53 rfl rfl ?_
    refine wm_ild (j := 28) (x := (nI n)) d_Mod_lay_54 hI (by decide) (by decide) (by show _ < 16; omega) (by decide) (by rw [u2_ne _ _ (by decide)]; exact hn) ?_
    refine wp_iconst (v := nI 1) d_Mod_lay_55 (by decide) ?_
    refine wp_iaddN d_Mod_lay_56 ?_
    refine wm_ist (j := 28) d_Mod_lay_57 hI (by decide) (by decide) (by show _ < 16; omega) (by decide) ?_
    exact wp_vret d_Mod_lay_58 rfl ⟨rfl, by simp [layM, c9]⟩
  · exact wp_vret d_Mod_lay_12 rfl ⟨rfl, by simp [layM, c9]⟩
end Mod10
