section Cls2
set_option maxRecDepth 20000 in
theorem c_Lst_add0 {G : Gt} {K N : Nat → Nat} {I : Nat → Nat → Int32} {R : Nat → Nat → Option Nat} {L : Nat → Nat → Int64} {E : Nat → Nat → Int32} {El : Nat → Nat → Int64} {Er : Nat → Nat → Option Nat} {l c n : Nat} (hl : K l = 3 + 1) (hc : K c = 2 + 1) (hla : R 19 l = none) (hn : I 20 l = nI n) : CallR G m_Lst_add 0 0 [.ref l, .ref c] (hN K N I R L E El Er) 0 0 none (hN K N (u2 I 20 l (nI (n + 1))) (u2r (u2r R 18 l (some c)) 19 l (some c)) L E El Er) := by
  refine CallS.of (Nat.le_of_ble_eq_true rfl) ?_
  refine wp_aload_n d_Lst_add_0 rfl 0 rfl ?_
  refine wn_get_Lst d_Lst_add_1 (hl) 1 (by decide) wF_Lst_7 rfl ?_
  refine wp_toVR (o := none) (z := .null) (hla) rfl ?_
  refine wp_ifnonnullN d_Lst_add_4 ?_
  refine wp_aload_n d_Lst_add_7 rfl 0 rfl ?_
  refine wp_aload_n d_Lst_add_8 rfl 1 rfl ?_
  refine wn_put_Lst (ty := t_Lst 0) (v := va_rf (some c)) (I' := I) (R' := u2r R 18 l (some c)) (L' := L) d_Lst_add_9 (hl) 0 (by decide) wF_Lst_13 rfl (t_Lst_ok 0 (by decide)) rfl rfl sF_18 (oR _ _ _ 18 _) ?_
  refine wp_goto (tgt := 23) d_Lst_add_12 (by decide) ?_
  refine wp_aload_n d_Lst_add_23 rfl 0 rfl ?_
  refine wp_aload_n d_Lst_add_24 rfl 1 rfl ?_
  refine wn_put_Lst (ty := t_Lst 1) (v := va_rf (some c)) (I' := I) (R' := u2r (u2r R 18 l (some c)) 19 l (some c)) (L' := L) d_Lst_add_25 (hl) 1 (by decide) wF_Lst_7 rfl (t_Lst_ok 1 (by decide)) rfl rfl sF_19 (oR _ _ _ 19 _) ?_
  refine wp_aload_n d_Lst_add_28 rfl 0 rfl ?_
  refine wp_dup d_Lst_add_29 rfl ?_
  refine wn_get_Lst d_Lst_add_30 (hl) 2 (by decide) wF_Lst_21 rfl ?_
  refine wp_toI (z := (nI n)) (hn) ?_
  refine wp_iconst (v := nI 1) d_Lst_add_33 (by decide) ?_
  refine wp_iaddN d_Lst_add_34 ?_
  refine wn_put_Lst (ty := t_Lst 2) (I' := u2 I 20 l (nI (n + 1))) (R' := u2r (u2r R 18 l (some c)) 19 l (some c)) (L' := L) d_Lst_add_35 (hl) 2 (by decide) wF_Lst_21 rfl (t_Lst_ok 2 (by decide)) rfl rfl sF_20 (oI _ _ _ 20 _) ?_
  exact wp_vret d_Lst_add_38 rfl ⟨rfl, rfl⟩
set_option maxRecDepth 20000 in
theorem c_Lst_add1 {G : Gt} {K N : Nat → Nat} {I : Nat → Nat → Int32} {R : Nat → Nat → Option Nat} {L : Nat → Nat → Int64} {E : Nat → Nat → Int32} {El : Nat → Nat → Int64} {Er : Nat → Nat → Option Nat} {l c a n : Nat} (hl : K l = 3 + 1) (hc : K c = 2 + 1) (ha : K a = 2 + 1) (hla : R 19 l = some a) (hn : I 20 l = nI n) : CallR G m_Lst_add 0 0 [.ref l, .ref c] (hN K N I R L E El Er) 0 0 none (hN K N (u2 I 20 l (nI (n + 1))) (u2r (u2r R 17 a (some c)) 19 l (some c)) L E El Er) := by
  refine CallS.of (Nat.le_of_ble_eq_true rfl) ?_
  refine wp_aload_n d_Lst_add_0 rfl 0 rfl ?_
  refine wn_get_Lst d_Lst_add_1 (hl) 1 (by decide) wF_Lst_7 rfl ?_
  refine wp_toVR (o := some a) (z := .ref a) (hla) rfl ?_
  refine wp_ifnonnull (tgt := 15) d_Lst_add_4 (by decide) ?_
  refine wp_aload_n d_Lst_add_15 rfl 0 rfl ?_
  refine wn_get_Lst d_Lst_add_16 (hl) 1 (by decide) wF_Lst_7 rfl ?_
  refine wp_toVR (o := some a) (z := .ref a) (hla) rfl ?_
  refine wp_aload_n d_Lst_add_19 rfl 1 rfl ?_
  refine wn_put_Cpy (ty := t_Cpy 3) (v := va_rf (some c)) (I' := I) (R' := u2r R 17 a (some c)) (L' := L) d_Lst_add_20 (ha) 3 (by decide) wF_Lst_16 rfl (t_Cpy_ok 3 (by decide)) rfl rfl sF_17 (oR _ _ _ 17 _) ?_
  refine wp_aload_n d_Lst_add_23 rfl 0 rfl ?_
  refine wp_aload_n d_Lst_add_24 rfl 1 rfl ?_
  refine wn_put_Lst (ty := t_Lst 1) (v := va_rf (some c)) (I' := I) (R' := u2r (u2r R 17 a (some c)) 19 l (some c)) (L' := L) d_Lst_add_25 (hl) 1 (by decide) wF_Lst_7 rfl (t_Lst_ok 1 (by decide)) rfl rfl sF_19 (oR _ _ _ 19 _) ?_
  refine wp_aload_n d_Lst_add_28 rfl 0 rfl ?_
  refine wp_dup d_Lst_add_29 rfl ?_
  refine wn_get_Lst d_Lst_add_30 (hl) 2 (by decide) wF_Lst_21 rfl ?_
  refine wp_toI (z := (nI n)) (hn) ?_
  refine wp_iconst (v := nI 1) d_Lst_add_33 (by decide) ?_
  refine wp_iaddN d_Lst_add_34 ?_
  refine wn_put_Lst (ty := t_Lst 2) (I' := u2 I 20 l (nI (n + 1))) (R' := u2r (u2r R 17 a (some c)) 19 l (some c)) (L' := L) d_Lst_add_35 (hl) 2 (by decide) wF_Lst_21 rfl (t_Lst_ok 2 (by decide)) rfl rfl sF_20 (oI _ _ _ 20 _) ?_
  exact wp_vret d_Lst_add_38 rfl ⟨rfl, rfl⟩
set_option maxRecDepth 20000 in
theorem c_Lst_take0 {G : Gt} {K N : Nat → Nat} {I : Nat → Nat → Int32} {R : Nat → Nat → Option Nat} {L : Nat → Nat → Int64} {E : Nat → Nat → Int32} {El : Nat → Nat → Int64} {Er : Nat → Nat → Option Nat} {l : Nat} (hl : K l = 3 + 1) (hf : R 18 l = none) : CallR G m_Lst_takeFirst 0 0 [.ref l] (hN K N I R L E El Er) 0 0 (some (.null)) (hN K N I R L E El Er) := by
  refine CallS.of (Nat.le_of_ble_eq_true rfl) ?_
  refine wp_aload_n d_Lst_takeFirst_0 rfl 0 rfl ?_
  refine wn_get_Lst d_Lst_takeFirst_1 (hl) 0 (by decide) wF_Lst_13 rfl ?_
  refine wp_toVR (o := none) (z := .null) (hf) rfl ?_
  refine wp_astore_nN (lv' := [(1, .null), (0, .ref l)]) d_Lst_takeFirst_4 rfl (by decide) rfl ?_
  refine wp_aload_nN d_Lst_takeFirst_5 rfl 0 rfl ?_
  refine wp_ifnonnullN d_Lst_takeFirst_6 ?_
  refine wp_null d_Lst_takeFirst_9 ?_
  exact wp_aret d_Lst_takeFirst_10 rfl (Or.inl ⟨_, rfl⟩) (Or.inl rfl) ⟨rfl, rfl⟩
set_option maxRecDepth 20000 in
theorem c_Lst_take1 {G : Gt} {K N : Nat → Nat} {I : Nat → Nat → Int32} {R : Nat → Nat → Option Nat} {L : Nat → Nat → Int64} {E : Nat → Nat → Int32} {El : Nat → Nat → Int64} {Er : Nat → Nat → Option Nat} {l a b n : Nat} (hl : K l = 3 + 1) (ha : K a = 2 + 1) (hf : R 18 l = some a) (hx : R 17 a = some b) (hn : I 20 l = nI n) (hn1 : 1 ≤ n) : CallR G m_Lst_takeFirst 0 0 [.ref l] (hN K N I R L E El Er) 0 0 (some (.ref a)) (hN K N (u2 I 20 l (nI (n - 1))) (u2r (u2r R 18 l (some b)) 17 a none) L E El Er) := by
  refine CallS.of (Nat.le_of_ble_eq_true rfl) ?_
  refine wp_aload_n d_Lst_takeFirst_0 rfl 0 rfl ?_
  refine wn_get_Lst d_Lst_takeFirst_1 (hl) 0 (by decide) wF_Lst_13 rfl ?_
  refine wp_toVR (o := some a) (z := .ref a) (hf) rfl ?_
  refine wp_astore_n (lv' := [(1, .ref a), (0, .ref l)]) d_Lst_takeFirst_4 rfl (by decide) rfl ?_
  refine wp_aload_n d_Lst_takeFirst_5 rfl 0 rfl ?_
  refine wp_ifnonnull (tgt := 11) d_Lst_takeFirst_6 (by decide) ?_
  refine wp_aload_n d_Lst_takeFirst_11 rfl 1 rfl ?_
  refine wp_aload_n d_Lst_takeFirst_12 rfl 0 rfl ?_
  refine wn_get_Cpy d_Lst_takeFirst_13 (ha) 3 (by decide) wF_Lst_16 rfl ?_
  refine wp_toVR (o := some b) (z := .ref b) (hx) rfl ?_
  refine wn_put_Lst (ty := t_Lst 0) (v := va_rf (some b)) (I' := I) (R' := u2r R 18 l (some b)) (L' := L) d_Lst_takeFirst_16 (hl) 0 (by decide) wF_Lst_13 rfl (t_Lst_ok 0 (by decide)) rfl rfl sF_18 (oR _ _ _ 18 _) ?_
  refine wp_aload_n d_Lst_takeFirst_19 rfl 1 rfl ?_
  refine wn_get_Lst d_Lst_takeFirst_20 (hl) 0 (by decide) wF_Lst_13 rfl ?_
  refine wp_toVR (o := some b) (z := .ref b) (by rw [u2r_at, if_pos rfl]) rfl ?_
  refine wp_ifnonnull (tgt := 31) d_Lst_takeFirst_23 (by decide) ?_
  refine wp_aload_n d_Lst_takeFirst_31 rfl 0 rfl ?_
  refine wp_null d_Lst_takeFirst_32 ?_
  refine wn_put_Cpy (ty := t_Cpy 3) (v := va_rf (none)) (I' := I) (R' := u2r (u2r R 18 l (some b)) 17 a none) (L' := L) d_Lst_takeFirst_33 (ha) 3 (by decide) wF_Lst_16 rfl (t_Cpy_ok 3 (by decide)) rfl rfl sF_17 (oR _ _ _ 17 _) ?_
  refine wp_aload_n d_Lst_takeFirst_36 rfl 1 rfl ?_
  refine wp_dup d_Lst_takeFirst_37 rfl ?_
  refine wn_get_Lst d_Lst_takeFirst_38 (hl) 2 (by decide) wF_Lst_21 rfl ?_
  refine wp_toI (z := (nI n)) (hn) ?_
  refine wp_iconst (v := nI 1) d_Lst_takeFirst_41 (by decide) ?_
  refine wp_isubN d_Lst_takeFirst_42 (by omega) ?_
  refine wn_put_Lst (ty := t_Lst 2) (I' := u2 I 20 l (nI (n - 1))) (R' := u2r (u2r R 18 l (some b)) 17 a none) (L' := L) d_Lst_takeFirst_43 (hl) 2 (by decide) wF_Lst_21 rfl (t_Lst_ok 2 (by decide)) rfl rfl sF_20 (oI _ _ _ 20 _) ?_
  refine wp_aload_n d_Lst_takeFirst_46 rfl 0 rfl ?_
  exact wp_aret d_Lst_takeFirst_47 rfl (Or.inl ⟨_, rfl⟩) (Or.inr ⟨_, rfl⟩) ⟨rfl, rfl⟩
set_option maxRecDepth 20000 in
theorem c_Lst_take2 {G : Gt} {K N : Nat → Nat} {I : Nat → Nat → Int32} {R : Nat → Nat → Option Nat} {L : Nat → Nat → Int64} {E : Nat → Nat → Int32} {El : Nat → Nat → Int64} {Er : Nat → Nat → Option Nat} {l a n : Nat} (hl : K l = 3 + 1) (ha : K a = 2 + 1) (hf : R 18 l = some a) (hx : R 17 a = none) (hn : I 20 l = nI n) (hn1 : 1 ≤ n) : CallR G m_Lst_takeFirst 0 0 [.ref l] (hN K N I R L E El Er) 0 0 (some (.ref a)) (hN K N (u2 I 20 l (nI (n - 1))) (u2r (u2r (u2r R 18 l none) 19 l none) 17 a none) L E El Er) := by
  refine CallS.of (Nat.le_of_ble_eq_true rfl) ?_
  refine wp_aload_n d_Lst_takeFirst_0 rfl 0 rfl ?_
  refine wn_get_Lst d_Lst_takeFirst_1 (hl) 0 (by decide) wF_Lst_13 rfl ?_
  refine wp_toVR (o := some a) (z := .ref a) (hf) rfl ?_
  refine wp_astore_n (lv' := [(1, .ref a), (0, .ref l)]) d_Lst_takeFirst_4 rfl (by decide) rfl ?_
  refine wp_aload_n d_Lst_takeFirst_5 rfl 0 rfl ?_
  refine wp_ifnonnull (tgt := 11) d_Lst_takeFirst_6 (by decide) ?_
  refine wp_aload_n d_Lst_takeFirst_11 rfl 1 rfl ?_
  refine wp_aload_n d_Lst_takeFirst_12 rfl 0 rfl ?_
  refine wn_get_Cpy d_Lst_takeFirst_13 (ha) 3 (by decide) wF_Lst_16 rfl ?_
  refine wp_toVR (o := none) (z := .null) (hx) rfl ?_
  refine wn_put_Lst (ty := t_Lst 0) (v := va_rf (none)) (I' := I) (R' := u2r R 18 l none) (L' := L) d_Lst_takeFirst_16 (hl) 0 (by decide) wF_Lst_13 rfl (t_Lst_ok 0 (by decide)) rfl rfl sF_18 (oR _ _ _ 18 _) ?_
  refine wp_aload_n d_Lst_takeFirst_19 rfl 1 rfl ?_
  refine wn_get_Lst d_Lst_takeFirst_20 (hl) 0 (by decide) wF_Lst_13 rfl ?_
  refine wp_toVR (o := none) (z := .null) (by rw [u2r_at, if_pos rfl]) rfl ?_
  refine wp_ifnonnullN d_Lst_takeFirst_23 ?_
  refine wp_aload_n d_Lst_takeFirst_26 rfl 1 rfl ?_
  refine wp_null d_Lst_takeFirst_27 ?_
  refine wn_put_Lst (ty := t_Lst 1) (v := va_rf (none)) (I' := I) (R' := u2r (u2r R 18 l none) 19 l none) (L' := L) d_Lst_takeFirst_28 (hl) 1 (by decide) wF_Lst_7 rfl (t_Lst_ok 1 (by decide)) rfl rfl sF_19 (oR _ _ _ 19 _) ?_
  refine wp_aload_n d_Lst_takeFirst_31 rfl 0 rfl ?_
  refine wp_null d_Lst_takeFirst_32 ?_
  refine wn_put_Cpy (ty := t_Cpy 3) (v := va_rf (none)) (I' := I) (R' := u2r (u2r (u2r R 18 l none) 19 l none) 17 a none) (L' := L) d_Lst_takeFirst_33 (ha) 3 (by decide) wF_Lst_16 rfl (t_Cpy_ok 3 (by decide)) rfl rfl sF_17 (oR _ _ _ 17 _) ?_
  refine wp_aload_n d_Lst_takeFirst_36 rfl 1 rfl ?_
  refine wp_dup d_Lst_takeFirst_37 rfl ?_
  refine wn_get_Lst d_Lst_takeFirst_38 (hl) 2 (by decide) wF_Lst_21 rfl ?_
  refine wp_toI (z := (nI n)) (hn) ?_
  refine wp_iconst (v := nI 1) d_Lst_takeFirst_41 (by decide) ?_
  refine wp_isubN d_Lst_takeFirst_42 (by omega) ?_
  refine wn_put_Lst (ty := t_Lst 2) (I' := u2 I 20 l (nI (n - 1))) (R' := u2r (u2r (u2r R 18 l none) 19 l none) 17 a none) (L' := L) d_Lst_takeFirst_43 (hl) 2 (by decide) wF_Lst_21 rfl (t_Lst_ok 2 (by decide)) rfl rfl sF_20 (oI _ _ _ 20 _) ?_
  refine wp_aload_n d_Lst_takeFirst_46 rfl 0 rfl ?_
  exact wp_aret d_Lst_takeFirst_47 rfl (Or.inl ⟨_, rfl⟩) (Or.inr ⟨_, rfl⟩) ⟨rfl, rfl⟩
set_option maxRecDepth 20000 in
theorem c_Lst_init {G : Gt} {h : AHp} {l : Nat} : CallR G m_Lst_init 1 12 [.ref l] h 0 0 none h := by
  refine CallS.of (Nat.le_of_ble_eq_true rfl) ?_
  refine wp_aload_n d_Lst_init_0 rfl 0 rfl ?_
  refine wp_objInit d_Lst_init_1 wM_Lst_1 ⟨Nat.le_of_ble_eq_true rfl, Nat.le_of_ble_eq_true rfl⟩ ?_
  exact wp_vret d_Lst_init_4 rfl ⟨rfl, rfl⟩
set_option maxRecDepth 20000 in
theorem c_Cpy_init {G : Gt} {K N : Nat → Nat} {I : Nat → Nat → Int32} {R : Nat → Nat → Option Nat} {L : Nat → Nat → Int64} {E : Nat → Nat → Int32} {El : Nat → Nat → Int64} {Er : Nat → Nat → Option Nat} {c m : Nat} {set by1 : Int32} (hc : K c = 2 + 1) : CallR G m_Cpy_init 1 12 [.ref c, .ref m, .int set, .int by1] (hN K N I R L E El Er) 0 0 none (hN K N (u2 (u2 I 15 c set) 16 c by1) (u2r R 14 c (some m)) L E El Er) := by
  refine CallS.of (Nat.le_of_ble_eq_true rfl) ?_
  refine wp_aload_n d_Cpy_init_0 rfl 0 rfl ?_
  refine wp_objInit d_Cpy_init_1 wM_Cpy_1 ⟨Nat.le_of_ble_eq_true rfl, Nat.le_of_ble_eq_true rfl⟩ ?_
  refine wp_aload_n d_Cpy_init_4 rfl 0 rfl ?_
  refine wp_aload_n d_Cpy_init_5 rfl 1 rfl ?_
  refine wn_putF_Cpy (ty := t_Cpy 0) (v := va_rf (some m)) (I' := I) (R' := u2r R 14 c (some m)) (L' := L) d_Cpy_init_6 (hc) 0 (by decide) wF_Cpy_7 rfl rfl rfl (t_Cpy_ok 0 (by decide)) rfl rfl sF_14 (oR _ _ _ 14 _) ?_
  refine wp_aload_n d_Cpy_init_9 rfl 0 rfl ?_
  refine wp_iload_n d_Cpy_init_10 rfl 2 rfl ?_
  refine wn_putF_Cpy (ty := t_Cpy 1) (I' := u2 I 15 c set) (R' := u2r R 14 c (some m)) (L' := L) d_Cpy_init_11 (hc) 1 (by decide) wF_Cpy_13 rfl rfl rfl (t_Cpy_ok 1 (by decide)) rfl rfl sF_15 (oI _ _ _ 15 _) ?_
  refine wp_aload_n d_Cpy_init_14 rfl 0 rfl ?_
  refine wp_iload_n d_Cpy_init_15 rfl 3 rfl ?_
  refine wn_putF_Cpy (ty := t_Cpy 2) (I' := u2 (u2 I 15 c set) 16 c by1) (R' := u2r R 14 c (some m)) (L' := L) d_Cpy_init_16 (hc) 2 (by decide) wF_Cpy_17 rfl rfl rfl (t_Cpy_ok 2 (by decide)) rfl rfl sF_16 (oI _ _ _ 16 _) ?_
  exact wp_vret d_Cpy_init_19 rfl ⟨rfl, rfl⟩
set_option maxRecDepth 20000 in
theorem c_Frm_init0 {G : Gt} {K N : Nat → Nat} {I : Nat → Nat → Int32} {R : Nat → Nat → Option Nat} {L : Nat → Nat → Int64} {E : Nat → Nat → Int32} {El : Nat → Nat → Int64} {Er : Nat → Nat → Option Nat} {f : Nat} {se : Int32} {b : Bool} (hf : K f = 6 + 1) : CallR G m_Frm_init 1 12 [.ref f, .int se, .null, .int (bI b)] (hN K N I R L E El Er) 0 0 none (hN K N (u2 (u2 I 32 f se) 34 f (bI b)) (u2r R 33 f none) L E El Er) := by
  refine CallS.of (Nat.le_of_ble_eq_true rfl) ?_
  refine wp_aload_n d_Frm_init_0 rfl 0 rfl ?_
  refine wp_objInit d_Frm_init_1 wM_Frm_1 ⟨Nat.le_of_ble_eq_true rfl, Nat.le_of_ble_eq_true rfl⟩ ?_
  refine wp_aload_n d_Frm_init_4 rfl 0 rfl ?_
  refine wp_iload_n d_Frm_init_5 rfl 1 rfl ?_
  refine wn_putF_Frm (ty := t_Frm 0) (I' := u2 I 32 f se) (R' := R) (L' := L) d_Frm_init_6 (hf) 0 (by decide) wF_Frm_7 rfl rfl rfl (t_Frm_ok 0 (by decide)) rfl rfl sF_32 (oI _ _ _ 32 _) ?_
  refine wp_aload_n d_Frm_init_9 rfl 0 rfl ?_
  refine wp_aload_nN d_Frm_init_10 rfl 2 rfl ?_
  refine wn_putF_Frm (ty := t_Frm 1) (v := va_rf (none)) (I' := u2 I 32 f se) (R' := u2r R 33 f none) (L' := L) d_Frm_init_11 (hf) 1 (by decide) wF_Frm_13 rfl rfl rfl (t_Frm_ok 1 (by decide)) rfl rfl sF_33 (oR _ _ _ 33 _) ?_
  refine wp_aload_n d_Frm_init_14 rfl 0 rfl ?_
  refine wp_iload_n d_Frm_init_15 rfl 3 rfl ?_
  refine wn_putF_Frm (ty := t_Frm 2) (I' := u2 (u2 I 32 f se) 34 f (bI b)) (R' := u2r R 33 f none) (L' := L) d_Frm_init_16 (hf) 2 (by decide) wF_Frm_17 rfl rfl rfl (t_Frm_ok 2 (by decide)) (narB' _) (fitB _) sF_34 (oI _ _ _ 34 _) ?_
  exact wp_vret d_Frm_init_19 rfl ⟨rfl, rfl⟩
set_option maxRecDepth 20000 in
theorem c_Frm_init1 {G : Gt} {K N : Nat → Nat} {I : Nat → Nat → Int32} {R : Nat → Nat → Option Nat} {L : Nat → Nat → Int64} {E : Nat → Nat → Int32} {El : Nat → Nat → Int64} {Er : Nat → Nat → Option Nat} {f c : Nat} {se : Int32} {b : Bool} (hf : K f = 6 + 1) : CallR G m_Frm_init 1 12 [.ref f, .int se, .ref c, .int (bI b)] (hN K N I R L E El Er) 0 0 none (hN K N (u2 (u2 I 32 f se) 34 f (bI b)) (u2r R 33 f (some c)) L E El Er) := by
  refine CallS.of (Nat.le_of_ble_eq_true rfl) ?_
  refine wp_aload_n d_Frm_init_0 rfl 0 rfl ?_
  refine wp_objInit d_Frm_init_1 wM_Frm_1 ⟨Nat.le_of_ble_eq_true rfl, Nat.le_of_ble_eq_true rfl⟩ ?_
  refine wp_aload_n d_Frm_init_4 rfl 0 rfl ?_
  refine wp_iload_n d_Frm_init_5 rfl 1 rfl ?_
  refine wn_putF_Frm (ty := t_Frm 0) (I' := u2 I 32 f se) (R' := R) (L' := L) d_Frm_init_6 (hf) 0 (by decide) wF_Frm_7 rfl rfl rfl (t_Frm_ok 0 (by decide)) rfl rfl sF_32 (oI _ _ _ 32 _) ?_
  refine wp_aload_n d_Frm_init_9 rfl 0 rfl ?_
  refine wp_aload_n d_Frm_init_10 rfl 2 rfl ?_
  refine wn_putF_Frm (ty := t_Frm 1) (v := va_rf (some c)) (I' := u2 I 32 f se) (R' := u2r R 33 f (some c)) (L' := L) d_Frm_init_11 (hf) 1 (by decide) wF_Frm_13 rfl rfl rfl (t_Frm_ok 1 (by decide)) rfl rfl sF_33 (oR _ _ _ 33 _) ?_
  refine wp_aload_n d_Frm_init_14 rfl 0 rfl ?_
  refine wp_iload_n d_Frm_init_15 rfl 3 rfl ?_
  refine wn_putF_Frm (ty := t_Frm 2) (I' := u2 (u2 I 32 f se) 34 f (bI b)) (R' := u2r R 33 f (some c)) (L' := L) d_Frm_init_16 (hf) 2 (by decide) wF_Frm_17 rfl rfl rfl (t_Frm_ok 2 (by decide)) (narB' _) (fitB _) sF_34 (oI _ _ _ 34 _) ?_
  exact wp_vret d_Frm_init_19 rfl ⟨rfl, rfl⟩
set_option maxRecDepth 20000 in
theorem c_Ent_init {G : Gt} {K N : Nat → Nat} {I : Nat → Nat → Int32} {R : Nat → Nat → Option Nat} {L : Nat → Nat → Int64} {E : Nat → Nat → Int32} {El : Nat → Nat → Int64} {Er : Nat → Nat → Option Nat} {e : Nat} {p : Int64} {len mn ot : Int32} (he : K e = 5 + 1) : CallR G m_Ent_init 1 12 [.ref e, .long p, .int len, .int mn, .int ot] (hN K N I R L E El Er) 0 0 none (hN K N (u2 (u2 (u2 I 29 e len) 30 e mn) 31 e ot) R (u2l L 28 e p) E El Er) := by
  refine CallS.of (Nat.le_of_ble_eq_true rfl) ?_
  refine wp_aload_n d_Ent_init_0 rfl 0 rfl ?_
  refine wp_objInit d_Ent_init_1 wM_Ent_1 ⟨Nat.le_of_ble_eq_true rfl, Nat.le_of_ble_eq_true rfl⟩ ?_
  refine wp_aload_n d_Ent_init_4 rfl 0 rfl ?_
  refine wp_lload_n d_Ent_init_5 rfl 1 rfl ?_
  refine wn_putF_Ent (ty := t_Ent 0) (I' := I) (R' := R) (L' := u2l L 28 e p) d_Ent_init_6 (he) 0 (by decide) wF_Ent_7 rfl rfl rfl (t_Ent_ok 0 (by decide)) rfl rfl sF_28 (oL _ _ _ 28 _) ?_
  refine wp_aload_n d_Ent_init_9 rfl 0 rfl ?_
  refine wp_iload_n d_Ent_init_10 rfl 2 rfl ?_
  refine wn_putF_Ent (ty := t_Ent 1) (I' := u2 I 29 e len) (R' := R) (L' := u2l L 28 e p) d_Ent_init_11 (he) 1 (by decide) wF_Ent_13 rfl rfl rfl (t_Ent_ok 1 (by decide)) rfl rfl sF_29 (oI _ _ _ 29 _) ?_
  refine wp_aload_n d_Ent_init_14 rfl 0 rfl ?_
  refine wp_iload d_Ent_init_15 3 rfl ?_
  refine wn_putF_Ent (ty := t_Ent 2) (I' := u2 (u2 I 29 e len) 30 e mn) (R' := R) (L' := u2l L 28 e p) d_Ent_init_17 (he) 2 (by decide) wF_Ent_17 rfl rfl rfl (t_Ent_ok 2 (by decide)) rfl rfl sF_30 (oI _ _ _ 30 _) ?_
  refine wp_aload_n d_Ent_init_20 rfl 0 rfl ?_
  refine wp_iload d_Ent_init_21 4 rfl ?_
  refine wn_putF_Ent (ty := t_Ent 3) (I' := u2 (u2 (u2 I 29 e len) 30 e mn) 31 e ot) (R' := R) (L' := u2l L 28 e p) d_Ent_init_23 (he) 3 (by decide) wF_Ent_20 rfl rfl rfl (t_Ent_ok 3 (by decide)) rfl rfl sF_31 (oI _ _ _ 31 _) ?_
  exact wp_vret d_Ent_init_26 rfl ⟨rfl, rfl⟩
set_option maxRecDepth 20000 in
theorem c_Msg_init {G : Gt} {K N : Nat → Nat} {I : Nat → Nat → Int32} {R : Nat → Nat → Option Nat} {L : Nat → Nat → Int64} {E : Nat → Nat → Int32} {El : Nat → Nat → Int64} {Er : Nat → Nat → Option Nat} {m t a : Nat} {p : Int32} (hm : K m = 9 + 1) : CallR G m_Msg_init 1 12 [.ref m, .ref t, .ref a, .int p] (hN K N I R L E El Er) 0 0 none (hN K N (u2 I 45 m p) (u2r (u2r R 43 m (some t)) 44 m (some a)) L E El Er) := by
  refine CallS.of (Nat.le_of_ble_eq_true rfl) ?_
  refine wp_aload_n d_Msg_init_0 rfl 0 rfl ?_
  refine wp_objInit d_Msg_init_1 wM_Msg_3 ⟨Nat.le_of_ble_eq_true rfl, Nat.le_of_ble_eq_true rfl⟩ ?_
  refine wp_aload_n d_Msg_init_4 rfl 0 rfl ?_
  refine wp_aload_n d_Msg_init_5 rfl 1 rfl ?_
  refine wn_putF_Msg (ty := t_Msg 0) (v := va_rf (some t)) (I' := I) (R' := u2r R 43 m (some t)) (L' := L) d_Msg_init_6 (hm) 0 (by decide) wF_Msg_9 rfl rfl rfl (t_Msg_ok 0 (by decide)) rfl rfl sF_43 (oR _ _ _ 43 _) ?_
  refine wp_aload_n d_Msg_init_9 rfl 0 rfl ?_
  refine wp_aload_n d_Msg_init_10 rfl 2 rfl ?_
  refine wn_putF_Msg (ty := t_Msg 1) (v := va_rf (some a)) (I' := I) (R' := u2r (u2r R 43 m (some t)) 44 m (some a)) (L' := L) d_Msg_init_11 (hm) 1 (by decide) wF_Msg_15 rfl rfl rfl (t_Msg_ok 1 (by decide)) rfl rfl sF_44 (oR _ _ _ 44 _) ?_
  refine wp_aload_n d_Msg_init_14 rfl 0 rfl ?_
  refine wp_iload_n d_Msg_init_15 rfl 3 rfl ?_
  refine wn_putF_Msg (ty := t_Msg 2) (I' := u2 I 45 m p) (R' := u2r (u2r R 43 m (some t)) 44 m (some a)) (L' := L) d_Msg_init_16 (hm) 2 (by decide) wF_Msg_19 rfl rfl rfl (t_Msg_ok 2 (by decide)) rfl rfl sF_45 (oI _ _ _ 45 _) ?_
  exact wp_vret d_Msg_init_19 rfl ⟨rfl, rfl⟩
set_option maxRecDepth 20000 in
theorem c_Frs_isFull {G : Gt} {K N : Nat → Nat} {I : Nat → Nat → Int32} {R : Nat → Nat → Option Nat} {L : Nat → Nat → Int64} {E : Nat → Nat → Int32} {El : Nat → Nat → Int64} {Er : Nat → Nat → Option Nat} {f r cap st n : Nat} (hf : K f = 7 + 1) (hr : K r = 20 + 5) (hR : R 35 f = some r) (hNr : N r = cap) (hcap : 1 ≤ cap ∧ cap ≤ 1000) (hst : I 36 f = nI st) (hst2 : st < cap) (hn : I 37 f = nI n) (hn2 : n ≤ cap) : CallR G m_Frs_isFull 0 0 [.ref f] (hN K N I R L E El Er) 0 0 (some (.int (bI (decide (cap ≤ n))))) (hN K N I R L E El Er) := by
  refine CallS.of (Nat.le_of_ble_eq_true rfl) ?_
  refine wp_aload_n d_Frs_isFull_0 rfl 0 rfl ?_
  refine wn_get_Frs d_Frs_isFull_1 (hf) 2 (by decide) wF_Frs_23 rfl ?_
  refine wp_toI (z := (nI n)) (hn) ?_
  refine wp_aload_n d_Frs_isFull_4 rfl 0 rfl ?_
  refine wn_get_Frs d_Frs_isFull_5 (hf) 0 (by decide) wF_Frs_17 rfl ?_
  refine wp_toVR (o := some r) (z := .ref r) (hR) rfl ?_
  refine wn_len (len := cap) d_Frs_isFull_8 (hr) rfl (hNr) ?_
  refine wp_ltN (tgt := 16) d_Frs_isFull_9 (by decide) (by omega) (by omega) (fun c9 => ?_) (fun c9 => ?_)
  · refine wp_iconst (v := nI 0) d_Frs_isFull_16 (by decide) ?_
    exact wp_zret (ty := .boolean) d_Frs_isFull_17 rfl rfl ⟨resI (bI_zero (decide_eq_false (by omega))), rfl⟩
  · refine wp_iconst (v := nI 1) d_Frs_isFull_12 (by decide) ?_
    refine wp_goto (tgt := 17) d_Frs_isFull_13 (by decide) ?_
    exact wp_zret (ty := .boolean) d_Frs_isFull_17 rfl rfl ⟨resI (bI_one (decide_eq_true (by omega))), rfl⟩
theorem plc {a cap v : Nat} (h : a < 2 * cap) (hv : (a < cap ∧ v = a) ∨ (cap ≤ a ∧ v = a - cap)) : v = a % cap := by
  rcases hv with ⟨h1, rfl⟩ | ⟨h1, rfl⟩
  · rw [Nat.mod_eq_of_lt h1]
  · rw [Nat.mod_eq_sub_mod h1, Nat.mod_eq_of_lt (by omega)]
set_option maxRecDepth 20000 in
theorem c_Frs_placeOf {G : Gt} {K N : Nat → Nat} {I : Nat → Nat → Int32} {R : Nat → Nat → Option Nat} {L : Nat → Nat → Int64} {E : Nat → Nat → Int32} {El : Nat → Nat → Int64} {Er : Nat → Nat → Option Nat} {f r cap st n : Nat} (hf : K f = 7 + 1) (hr : K r = 20 + 5) (hR : R 35 f = some r) (hNr : N r = cap) (hcap : 1 ≤ cap ∧ cap ≤ 1000) (hst : I 36 f = nI st) (hst2 : st < cap) (hn : I 37 f = nI n) (hn2 : n ≤ cap) {k : Nat} (hk : k ≤ cap) : CallR G m_Frs_placeOf 0 0 [.ref f, .int (nI k)] (hN K N I R L E El Er) 0 0 (some (.int (nI ((st + k) % cap)))) (hN K N I R L E El Er) := by
  refine CallS.of (Nat.le_of_ble_eq_true rfl) ?_
  refine wp_aload_n d_Frs_placeOf_0 rfl 0 rfl ?_
  refine wn_get_Frs d_Frs_placeOf_1 (hf) 1 (by decide) wF_Frs_27 rfl ?_
  refine wp_toI (z := (nI st)) (hst) ?_
  refine wp_iload_n d_Frs_placeOf_4 rfl 1 rfl ?_
  refine wp_iaddN d_Frs_placeOf_5 ?_
  refine wp_istore_n (lv' := [(2, .int (nI (st + k))), (0, .ref f), (1, .int (nI k))]) d_Frs_placeOf_6 rfl (by decide) rfl ?_
  refine wp_iload_n d_Frs_placeOf_7 rfl 0 rfl ?_
  refine wp_aload_n d_Frs_placeOf_8 rfl 1 rfl ?_
  refine wn_get_Frs d_Frs_placeOf_9 (hf) 0 (by decide) wF_Frs_17 rfl ?_
  refine wp_toVR (o := some r) (z := .ref r) (hR) rfl ?_
  refine wn_len (len := cap) d_Frs_placeOf_12 (hr) rfl (hNr) ?_
  refine wp_geN (tgt := 20) d_Frs_placeOf_13 (by decide) (by omega) (by omega) (fun c13 => ?_) (fun c13 => ?_)
  · refine wp_iload_n d_Frs_placeOf_20 rfl 0 rfl ?_
    refine wp_aload_n d_Frs_placeOf_21 rfl 1 rfl ?_
    refine wn_get_Frs d_Frs_placeOf_22 (hf) 0 (by decide) wF_Frs_17 rfl ?_
    refine wp_toVR (o := some r) (z := .ref r) (hR) rfl ?_
    refine wn_len (len := cap) d_Frs_placeOf_25 (hr) rfl (hNr) ?_
    refine wp_isubN d_Frs_placeOf_26 (by omega) ?_
    exact wp_iret d_Frs_placeOf_27 rfl ⟨resI (congrArg nI (plc (by omega) (by omega))), rfl⟩
  · refine wp_iload_n d_Frs_placeOf_16 rfl 0 rfl ?_
    refine wp_goto (tgt := 27) d_Frs_placeOf_17 (by decide) ?_
    exact wp_iret d_Frs_placeOf_27 rfl ⟨resI (congrArg nI (plc (by omega) (by omega))), rfl⟩
set_option maxRecDepth 20000 in
theorem c_Frs_frameAt1 {G : Gt} {K N : Nat → Nat} {I : Nat → Nat → Int32} {R : Nat → Nat → Option Nat} {L : Nat → Nat → Int64} {E : Nat → Nat → Int32} {El : Nat → Nat → Int64} {Er : Nat → Nat → Option Nat} {f r cap st n : Nat} (hf : K f = 7 + 1) (hr : K r = 20 + 5) (hR : R 35 f = some r) (hNr : N r = cap) (hcap : 1 ≤ cap ∧ cap ≤ 1000) (hst : I 36 f = nI st) (hst2 : st < cap) (hn : I 37 f = nI n) (hn2 : n ≤ cap) {k a : Nat} (hk : k < n) (ha : Er r ((st + k) % cap) = some a) : CallR G m_Frs_frameAt 1 15 [.ref f, .int (nI k)] (hN K N I R L E El Er) 0 0 (some (.ref a)) (hN K N I R L E El Er) := by
  refine CallS.of (Nat.le_of_ble_eq_true rfl) ?_
  refine wp_iload_n d_Frs_frameAt_0 rfl 1 rfl ?_
  refine wp_if_ltN (tgt := 25) d_Frs_frameAt_1 (by decide) (by omega) ?_
  refine wp_iload_n d_Frs_frameAt_4 rfl 1 rfl ?_
  refine wp_aload_n d_Frs_frameAt_5 rfl 0 rfl ?_
  refine wn_get_Frs d_Frs_frameAt_6 (hf) 2 (by decide) wF_Frs_23 rfl ?_
  refine wp_toI (z := (nI n)) (hn) ?_
  refine wp_geN (tgt := 25) d_Frs_frameAt_9 (by decide) (by omega) (by omega) (fun c9 => ?_) (fun c9 => ?_)
  · exact absurd c9 (by omega)
  · refine wp_aload_n d_Frs_frameAt_12 rfl 0 rfl ?_
    refine wn_get_Frs d_Frs_frameAt_13 (hf) 0 (by decide) wF_Frs_17 rfl ?_
    refine wp_toVR (o := some r) (z := .ref r) (hR) rfl ?_
    refine wp_aload_n d_Frs_frameAt_16 rfl 0 rfl ?_
    refine wp_iload_n d_Frs_frameAt_17 rfl 1 rfl ?_
    refine wp_callV (r := 1) d_Frs_frameAt_18 (link_V (as := [.int (nI k)]) (rest := [.ref r]) (r := (R_Frs, T_Frs, 3)) d_Frs_frameAt_18 cal_Frs_placeOf wM_Frs_30 rfl (hN_o (hf) (by decide)) rfl) cal_Frs_placeOf (c_Frs_placeOf hf hr hR hNr hcap hst hst2 hn hn2 (by omega)) (Nat.le_of_ble_eq_true rfl) ⟨Nat.le_of_ble_eq_true rfl, Nat.le_of_ble_eq_true rfl⟩ ?_
    have hmd := Nat.mod_lt (st + k) (show 0 < cap by omega)
    refine wn_ald (x := some a) d_Frs_frameAt_21 (hr) rfl (by decide) (by rw [hNr]; omega) (by rw [hNr]; omega) (ha) ?_
    refine wp_goto (tgt := 26) d_Frs_frameAt_22 (by decide) ?_
    exact wp_aret d_Frs_frameAt_26 rfl (Or.inl ⟨_, rfl⟩) (Or.inr ⟨_, rfl⟩) ⟨rfl, rfl⟩
set_option maxRecDepth 20000 in
theorem c_Frs_frameAt0 {G : Gt} {K N : Nat → Nat} {I : Nat → Nat → Int32} {R : Nat → Nat → Option Nat} {L : Nat → Nat → Int64} {E : Nat → Nat → Int32} {El : Nat → Nat → Int64} {Er : Nat → Nat → Option Nat} {f r cap st n : Nat} (hf : K f = 7 + 1) (hr : K r = 20 + 5) (hR : R 35 f = some r) (hNr : N r = cap) (hcap : 1 ≤ cap ∧ cap ≤ 1000) (hst : I 36 f = nI st) (hst2 : st < cap) (hn : I 37 f = nI n) (hn2 : n ≤ cap) {k : Nat} (hk : n ≤ k) (hk2 : k < 2 ^ 31) : CallR G m_Frs_frameAt 0 0 [.ref f, .int (nI k)] (hN K N I R L E El Er) 0 0 (some (.null)) (hN K N I R L E El Er) := by
  refine CallS.of (Nat.le_of_ble_eq_true rfl) ?_
  refine wp_iload_n d_Frs_frameAt_0 rfl 1 rfl ?_
  refine wp_if_ltN (tgt := 25) d_Frs_frameAt_1 (by decide) (by omega) ?_
  refine wp_iload_n d_Frs_frameAt_4 rfl 1 rfl ?_
  refine wp_aload_n d_Frs_frameAt_5 rfl 0 rfl ?_
  refine wn_get_Frs d_Frs_frameAt_6 (hf) 2 (by decide) wF_Frs_23 rfl ?_
  refine wp_toI (z := (nI n)) (hn) ?_
  refine wp_geN (tgt := 25) d_Frs_frameAt_9 (by decide) (by omega) (by omega) (fun c9 => ?_) (fun c9 => ?_)
  · refine wp_null d_Frs_frameAt_25 ?_
    exact wp_aret d_Frs_frameAt_26 rfl (Or.inl ⟨_, rfl⟩) (Or.inl rfl) ⟨rfl, rfl⟩
  · exact absurd c9 (by omega)
set_option maxRecDepth 20000 in
theorem c_Frs_add1 {G : Gt} {K N : Nat → Nat} {I : Nat → Nat → Int32} {R : Nat → Nat → Option Nat} {L : Nat → Nat → Int64} {E : Nat → Nat → Int32} {El : Nat → Nat → Int64} {Er : Nat → Nat → Option Nat} {f r cap st n : Nat} (hf : K f = 7 + 1) (hr : K r = 20 + 5) (hR : R 35 f = some r) (hNr : N r = cap) (hcap : 1 ≤ cap ∧ cap ≤ 1000) (hst : I 36 f = nI st) (hst2 : st < cap) (hn : I 37 f = nI n) (hn2 : n ≤ cap) {a : Nat} (ha : K a = 6 + 1) (hlt : n < cap) : CallR G m_Frs_add 1 15 [.ref f, .ref a] (hN K N I R L E El Er) 0 0 none (hN K N (u2 I 37 f (nI (n + 1))) R L E El (u2r Er r ((st + n) % cap) (some a))) := by
  refine CallS.of (Nat.le_of_ble_eq_true rfl) ?_
  refine wp_aload_n d_Frs_add_0 rfl 0 rfl ?_
  refine wp_callV (r := 0) d_Frs_add_1 (link_V (as := []) (rest := []) (r := (R_Frs, T_Frs, 3)) d_Frs_add_1 cal_Frs_isFull wM_Frs_41 rfl (hN_o (hf) (by decide)) rfl) cal_Frs_isFull (c_Frs_isFull hf hr hR hNr hcap hst hst2 hn hn2) (Nat.le_of_ble_eq_true rfl) ⟨Nat.le_of_ble_eq_true rfl, Nat.le_of_ble_eq_true rfl⟩ ?_
  refine wp_if_neB (tgt := 31) d_Frs_add_4 (by decide) (fun c4 => ?_) (fun c4 => ?_)
  · exact absurd (of_decide_eq_true c4) (by omega)
  · refine wp_aload_n d_Frs_add_7 rfl 0 rfl ?_
    refine wn_get_Frs d_Frs_add_8 (hf) 0 (by decide) wF_Frs_17 rfl ?_
    refine wp_toVR (o := some r) (z := .ref r) (hR) rfl ?_
    refine wp_aload_n d_Frs_add_11 rfl 0 rfl ?_
    refine wp_aload_n d_Frs_add_12 rfl 0 rfl ?_
    refine wn_get_Frs d_Frs_add_13 (hf) 2 (by decide) wF_Frs_23 rfl ?_
    refine wp_toI (z := (nI n)) (hn) ?_
    refine wp_callV (r := 1) d_Frs_add_16 (link_V (as := [.int (nI n)]) (rest := [.ref r]) (r := (R_Frs, T_Frs, 3)) d_Frs_add_16 cal_Frs_placeOf wM_Frs_30 rfl (hN_o (hf) (by decide)) rfl) cal_Frs_placeOf (c_Frs_placeOf hf hr hR hNr hcap hst hst2 hn hn2 (by omega)) (Nat.le_of_ble_eq_true rfl) ⟨Nat.le_of_ble_eq_true rfl, Nat.le_of_ble_eq_true rfl⟩ ?_
    refine wp_aload_n d_Frs_add_19 rfl 1 rfl ?_
    have hmd := Nat.mod_lt (st + n) (show 0 < cap by omega)
    refine wn_ast d_Frs_add_20 (hr) rfl (by decide) (ha) (by decide) rfl (by rw [hNr]; omega) (by rw [hNr]; omega) ?_
    refine wp_aload_n d_Frs_add_21 rfl 0 rfl ?_
    refine wp_dup d_Frs_add_22 rfl ?_
    refine wn_get_Frs d_Frs_add_23 (hf) 2 (by decide) wF_Frs_23 rfl ?_
    refine wp_toI (z := (nI n)) (hn) ?_
    refine wp_iconst (v := nI 1) d_Frs_add_26 (by decide) ?_
    refine wp_iaddN d_Frs_add_27 ?_
    refine wn_put_Frs (ty := t_Frs 2) (I' := u2 I 37 f (nI (n + 1))) (R' := R) (L' := L) d_Frs_add_28 (hf) 2 (by decide) wF_Frs_23 rfl (t_Frs_ok 2 (by decide)) rfl rfl sF_37 (oI _ _ _ 37 _) ?_
    exact wp_vret d_Frs_add_31 rfl ⟨rfl, rfl⟩
set_option maxRecDepth 20000 in
theorem c_Frs_add0 {G : Gt} {K N : Nat → Nat} {I : Nat → Nat → Int32} {R : Nat → Nat → Option Nat} {L : Nat → Nat → Int64} {E : Nat → Nat → Int32} {El : Nat → Nat → Int64} {Er : Nat → Nat → Option Nat} {f r cap st n : Nat} (hf : K f = 7 + 1) (hr : K r = 20 + 5) (hR : R 35 f = some r) (hNr : N r = cap) (hcap : 1 ≤ cap ∧ cap ≤ 1000) (hst : I 36 f = nI st) (hst2 : st < cap) (hn : I 37 f = nI n) (hn2 : n ≤ cap) {a : Nat} (hlt : n = cap) : CallR G m_Frs_add 1 12 [.ref f, .ref a] (hN K N I R L E El Er) 0 0 none (hN K N I R L E El Er) := by
  refine CallS.of (Nat.le_of_ble_eq_true rfl) ?_
  refine wp_aload_n d_Frs_add_0 rfl 0 rfl ?_
  refine wp_callV (r := 0) d_Frs_add_1 (link_V (as := []) (rest := []) (r := (R_Frs, T_Frs, 3)) d_Frs_add_1 cal_Frs_isFull wM_Frs_41 rfl (hN_o (hf) (by decide)) rfl) cal_Frs_isFull (c_Frs_isFull hf hr hR hNr hcap hst hst2 hn hn2) (Nat.le_of_ble_eq_true rfl) ⟨Nat.le_of_ble_eq_true rfl, Nat.le_of_ble_eq_true rfl⟩ ?_
  refine wp_if_neB (tgt := 31) d_Frs_add_4 (by decide) (fun c4 => ?_) (fun c4 => ?_)
  · exact wp_vret d_Frs_add_31 rfl ⟨rfl, rfl⟩
  · exact absurd (of_decide_eq_false c4) (by omega)
set_option maxRecDepth 20000 in
theorem c_Frs_take1 {G : Gt} {K N : Nat → Nat} {I : Nat → Nat → Int32} {R : Nat → Nat → Option Nat} {L : Nat → Nat → Int64} {E : Nat → Nat → Int32} {El : Nat → Nat → Int64} {Er : Nat → Nat → Option Nat} {f r cap st n : Nat} (hf : K f = 7 + 1) (hr : K r = 20 + 5) (hR : R 35 f = some r) (hNr : N r = cap) (hcap : 1 ≤ cap ∧ cap ≤ 1000) (hst : I 36 f = nI st) (hst2 : st < cap) (hn : I 37 f = nI n) (hn2 : n ≤ cap) {a : Nat} (hlt : 0 < n) (ha : Er r ((st + 0) % cap) = some a) : CallR G m_Frs_takeFirst 2 28 [.ref f] (hN K N I R L E El Er) 0 0 (some (.ref a)) (hN K N (u2 (u2 I 36 f (nI ((st + 1) % cap))) 37 f (nI (n - 1))) R L E El Er) := by
  refine CallS.of (Nat.le_of_ble_eq_true rfl) ?_
  refine wp_aload_n d_Frs_takeFirst_0 rfl 0 rfl ?_
  refine wp_iconst (v := nI 0) d_Frs_takeFirst_1 (by decide) ?_
  refine wp_callV (r := 0) d_Frs_takeFirst_2 (link_V (as := [.int (nI 0)]) (rest := []) (r := (R_Frs, T_Frs, 3)) d_Frs_takeFirst_2 cal_Frs_frameAt wM_Frs_34 rfl (hN_o (hf) (by decide)) rfl) cal_Frs_frameAt (c_Frs_frameAt1 (k := 0) hf hr hR hNr hcap hst hst2 hn hn2 hlt ha) (Nat.le_of_ble_eq_true rfl) ⟨Nat.le_of_ble_eq_true rfl, Nat.le_of_ble_eq_true rfl⟩ ?_
  refine wp_astore_n (lv' := [(1, .ref a), (0, .ref f)]) d_Frs_takeFirst_5 rfl (by decide) rfl ?_
  refine wp_aload_n d_Frs_takeFirst_6 rfl 0 rfl ?_
  refine wp_ifnull d_Frs_takeFirst_7 ?_
  refine wp_aload_n d_Frs_takeFirst_10 rfl 1 rfl ?_
  refine wp_aload_n d_Frs_takeFirst_11 rfl 1 rfl ?_
  refine wp_iconst (v := nI 1) d_Frs_takeFirst_12 (by decide) ?_
  refine wp_callV (r := 1) d_Frs_takeFirst_13 (link_V (as := [.int (nI 1)]) (rest := [.ref f]) (r := (R_Frs, T_Frs, 3)) d_Frs_takeFirst_13 cal_Frs_placeOf wM_Frs_30 rfl (hN_o (hf) (by decide)) rfl) cal_Frs_placeOf (c_Frs_placeOf hf hr hR hNr hcap hst hst2 hn hn2 (by omega)) (Nat.le_of_ble_eq_true rfl) ⟨Nat.le_of_ble_eq_true rfl, Nat.le_of_ble_eq_true rfl⟩ ?_
  refine wn_put_Frs (ty := t_Frs 1) (I' := u2 I 36 f (nI ((st + 1) % cap))) (R' := R) (L' := L) d_Frs_takeFirst_16 (hf) 1 (by decide) wF_Frs_27 rfl (t_Frs_ok 1 (by decide)) rfl rfl sF_36 (oI _ _ _ 36 _) ?_
  refine wp_aload_n d_Frs_takeFirst_19 rfl 1 rfl ?_
  refine wp_dup d_Frs_takeFirst_20 rfl ?_
  refine wn_get_Frs d_Frs_takeFirst_21 (hf) 2 (by decide) wF_Frs_23 rfl ?_
  refine wp_toI (z := (nI n)) (by rw [u2_ne _ _ (by decide)]; exact hn) ?_
  refine wp_iconst (v := nI 1) d_Frs_takeFirst_24 (by decide) ?_
  refine wp_isubN d_Frs_takeFirst_25 (by omega) ?_
  refine wn_put_Frs (ty := t_Frs 2) (I' := u2 (u2 I 36 f (nI ((st + 1) % cap))) 37 f (nI (n - 1))) (R' := R) (L' := L) d_Frs_takeFirst_26 (hf) 2 (by decide) wF_Frs_23 rfl (t_Frs_ok 2 (by decide)) rfl rfl sF_37 (oI _ _ _ 37 _) ?_
  refine wp_aload_n d_Frs_takeFirst_29 rfl 0 rfl ?_
  exact wp_aret d_Frs_takeFirst_30 rfl (Or.inl ⟨_, rfl⟩) (Or.inr ⟨_, rfl⟩) ⟨rfl, rfl⟩
set_option maxRecDepth 20000 in
theorem c_Frs_take0 {G : Gt} {K N : Nat → Nat} {I : Nat → Nat → Int32} {R : Nat → Nat → Option Nat} {L : Nat → Nat → Int64} {E : Nat → Nat → Int32} {El : Nat → Nat → Int64} {Er : Nat → Nat → Option Nat} {f r cap st n : Nat} (hf : K f = 7 + 1) (hr : K r = 20 + 5) (hR : R 35 f = some r) (hNr : N r = cap) (hcap : 1 ≤ cap ∧ cap ≤ 1000) (hst : I 36 f = nI st) (hst2 : st < cap) (hn : I 37 f = nI n) (hn2 : n ≤ cap) (hlt : n = 0) : CallR G m_Frs_takeFirst 2 28 [.ref f] (hN K N I R L E El Er) 0 0 (some (.null)) (hN K N I R L E El Er) := by
  refine CallS.of (Nat.le_of_ble_eq_true rfl) ?_
  refine wp_aload_n d_Frs_takeFirst_0 rfl 0 rfl ?_
  refine wp_iconst (v := nI 0) d_Frs_takeFirst_1 (by decide) ?_
  refine wp_callV (r := 0) d_Frs_takeFirst_2 (link_V (as := [.int (nI 0)]) (rest := []) (r := (R_Frs, T_Frs, 3)) d_Frs_takeFirst_2 cal_Frs_frameAt wM_Frs_34 rfl (hN_o (hf) (by decide)) rfl) cal_Frs_frameAt (c_Frs_frameAt0 (k := 0) hf hr hR hNr hcap hst hst2 hn hn2 (by omega) (by decide)) (Nat.le_of_ble_eq_true rfl) ⟨Nat.le_of_ble_eq_true rfl, Nat.le_of_ble_eq_true rfl⟩ ?_
  refine wp_astore_nN (lv' := [(1, .null), (0, .ref f)]) d_Frs_takeFirst_5 rfl (by decide) rfl ?_
  refine wp_aload_nN d_Frs_takeFirst_6 rfl 0 rfl ?_
  refine wp_ifnullN (tgt := 29) d_Frs_takeFirst_7 (by decide) ?_
  refine wp_aload_nN d_Frs_takeFirst_29 rfl 0 rfl ?_
  exact wp_aret d_Frs_takeFirst_30 rfl (Or.inl ⟨_, rfl⟩) (Or.inl rfl) ⟨rfl, rfl⟩
set_option maxRecDepth 20000 in
theorem c_Frs_dbl0 {G : Gt} {K N : Nat → Nat} {I : Nat → Nat → Int32} {R : Nat → Nat → Option Nat} {L : Nat → Nat → Int64} {E : Nat → Nat → Int32} {El : Nat → Nat → Int64} {Er : Nat → Nat → Option Nat} {f r cap st n : Nat} (hf : K f = 7 + 1) (hr : K r = 20 + 5) (hR : R 35 f = some r) (hNr : N r = cap) (hcap : 1 ≤ cap ∧ cap ≤ 1000) (hst : I 36 f = nI st) (hst2 : st < cap) (hn : I 37 f = nI n) (hn2 : n ≤ cap) (hlt : n = 0) : CallR G m_Frs_doubleFirst 2 28 [.ref f] (hN K N I R L E El Er) 0 0 (some (.int (bI false))) (hN K N I R L E El Er) := by
  refine CallS.of (Nat.le_of_ble_eq_true rfl) ?_
  refine wp_aload_n d_Frs_doubleFirst_0 rfl 0 rfl ?_
  refine wp_iconst (v := nI 0) d_Frs_doubleFirst_1 (by decide) ?_
  refine wp_callV (r := 0) d_Frs_doubleFirst_2 (link_V (as := [.int (nI 0)]) (rest := []) (r := (R_Frs, T_Frs, 3)) d_Frs_doubleFirst_2 cal_Frs_frameAt wM_Frs_34 rfl (hN_o (hf) (by decide)) rfl) cal_Frs_frameAt (c_Frs_frameAt0 (k := 0) hf hr hR hNr hcap hst hst2 hn hn2 (by omega) (by decide)) (Nat.le_of_ble_eq_true rfl) ⟨Nat.le_of_ble_eq_true rfl, Nat.le_of_ble_eq_true rfl⟩ ?_
  refine wp_astore_nN (lv' := [(1, .null), (0, .ref f)]) d_Frs_doubleFirst_5 rfl (by decide) rfl ?_
  refine wp_aload_nN d_Frs_doubleFirst_6 rfl 0 rfl ?_
  refine wp_ifnullN (tgt := 17) d_Frs_doubleFirst_7 (by decide) ?_
  refine wp_iconst (v := nI 0) d_Frs_doubleFirst_17 (by decide) ?_
  exact wp_zret (ty := .boolean) d_Frs_doubleFirst_18 rfl rfl ⟨resI (bI_zero (rfl)), rfl⟩
set_option maxRecDepth 20000 in
theorem c_Frs_dbl1 {G : Gt} {K N : Nat → Nat} {I : Nat → Nat → Int32} {R : Nat → Nat → Option Nat} {L : Nat → Nat → Int64} {E : Nat → Nat → Int32} {El : Nat → Nat → Int64} {Er : Nat → Nat → Option Nat} {f r cap st n : Nat} (hf : K f = 7 + 1) (hr : K r = 20 + 5) (hR : R 35 f = some r) (hNr : N r = cap) (hcap : 1 ≤ cap ∧ cap ≤ 1000) (hst : I 36 f = nI st) (hst2 : st < cap) (hn : I 37 f = nI n) (hn2 : n ≤ cap) {a : Nat} (hlt : n = cap) (ha : Er r ((st + 0) % cap) = some a) : CallR G m_Frs_doubleFirst 2 28 [.ref f] (hN K N I R L E El Er) 0 0 (some (.int (bI false))) (hN K N I R L E El Er) := by
  refine CallS.of (Nat.le_of_ble_eq_true rfl) ?_
  refine wp_aload_n d_Frs_doubleFirst_0 rfl 0 rfl ?_
  refine wp_iconst (v := nI 0) d_Frs_doubleFirst_1 (by decide) ?_
  refine wp_callV (r := 0) d_Frs_doubleFirst_2 (link_V (as := [.int (nI 0)]) (rest := []) (r := (R_Frs, T_Frs, 3)) d_Frs_doubleFirst_2 cal_Frs_frameAt wM_Frs_34 rfl (hN_o (hf) (by decide)) rfl) cal_Frs_frameAt (c_Frs_frameAt1 (k := 0) hf hr hR hNr hcap hst hst2 hn hn2 (by omega) ha) (Nat.le_of_ble_eq_true rfl) ⟨Nat.le_of_ble_eq_true rfl, Nat.le_of_ble_eq_true rfl⟩ ?_
  refine wp_astore_n (lv' := [(1, .ref a), (0, .ref f)]) d_Frs_doubleFirst_5 rfl (by decide) rfl ?_
  refine wp_aload_n d_Frs_doubleFirst_6 rfl 0 rfl ?_
  refine wp_ifnull d_Frs_doubleFirst_7 ?_
  refine wp_aload_n d_Frs_doubleFirst_10 rfl 1 rfl ?_
  refine wp_callV (r := 0) d_Frs_doubleFirst_11 (link_V (as := []) (rest := []) (r := (R_Frs, T_Frs, 3)) d_Frs_doubleFirst_11 cal_Frs_isFull wM_Frs_41 rfl (hN_o (hf) (by decide)) rfl) cal_Frs_isFull (c_Frs_isFull hf hr hR hNr hcap hst hst2 hn hn2) (Nat.le_of_ble_eq_true rfl) ⟨Nat.le_of_ble_eq_true rfl, Nat.le_of_ble_eq_true rfl⟩ ?_
  refine wp_if_eqB (tgt := 19) d_Frs_doubleFirst_14 (by decide) (fun c14 => ?_) (fun c14 => ?_)
  · exact absurd (of_decide_eq_false c14) (by omega)
  · refine wp_iconst (v := nI 0) d_Frs_doubleFirst_17 (by decide) ?_
    exact wp_zret (ty := .boolean) d_Frs_doubleFirst_18 rfl rfl ⟨resI (bI_zero (rfl)), rfl⟩
set_option maxRecDepth 20000 in
theorem c_Frs_dbl2 {G : Gt} {K N : Nat → Nat} {I : Nat → Nat → Int32} {R : Nat → Nat → Option Nat} {L : Nat → Nat → Int64} {E : Nat → Nat → Int32} {El : Nat → Nat → Int64} {Er : Nat → Nat → Option Nat} {f r cap st n : Nat} (hf : K f = 7 + 1) (hr : K r = 20 + 5) (hR : R 35 f = some r) (hNr : N r = cap) (hcap : 1 ≤ cap ∧ cap ≤ 1000) (hst : I 36 f = nI st) (hst2 : st < cap) (hn : I 37 f = nI n) (hn2 : n ≤ cap) {a : Nat} (hlt : 0 < n ∧ n < cap) (ha : Er r ((st + 0) % cap) = some a) (hka : K a = 6 + 1) : CallR G m_Frs_doubleFirst 2 28 [.ref f] (hN K N I R L E El Er) 0 0 (some (.int (bI true))) (hN K N (u2 (u2 I 36 f (nI ((st + (cap - 1)) % cap))) 37 f (nI (n + 1))) R L E El (u2r Er r ((st + (cap - 1)) % cap) (some a))) := by
  refine CallS.of (Nat.le_of_ble_eq_true rfl) ?_
  refine wp_aload_n d_Frs_doubleFirst_0 rfl 0 rfl ?_
  refine wp_iconst (v := nI 0) d_Frs_doubleFirst_1 (by decide) ?_
  refine wp_callV (r := 0) d_Frs_doubleFirst_2 (link_V (as := [.int (nI 0)]) (rest := []) (r := (R_Frs, T_Frs, 3)) d_Frs_doubleFirst_2 cal_Frs_frameAt wM_Frs_34 rfl (hN_o (hf) (by decide)) rfl) cal_Frs_frameAt (c_Frs_frameAt1 (k := 0) hf hr hR hNr hcap hst hst2 hn hn2 (by omega) ha) (Nat.le_of_ble_eq_true rfl) ⟨Nat.le_of_ble_eq_true rfl, Nat.le_of_ble_eq_true rfl⟩ ?_
  refine wp_astore_n (lv' := [(1, .ref a), (0, .ref f)]) d_Frs_doubleFirst_5 rfl (by decide) rfl ?_
  refine wp_aload_n d_Frs_doubleFirst_6 rfl 0 rfl ?_
  refine wp_ifnull d_Frs_doubleFirst_7 ?_
  refine wp_aload_n d_Frs_doubleFirst_10 rfl 1 rfl ?_
  refine wp_callV (r := 0) d_Frs_doubleFirst_11 (link_V (as := []) (rest := []) (r := (R_Frs, T_Frs, 3)) d_Frs_doubleFirst_11 cal_Frs_isFull wM_Frs_41 rfl (hN_o (hf) (by decide)) rfl) cal_Frs_isFull (c_Frs_isFull hf hr hR hNr hcap hst hst2 hn hn2) (Nat.le_of_ble_eq_true rfl) ⟨Nat.le_of_ble_eq_true rfl, Nat.le_of_ble_eq_true rfl⟩ ?_
  refine wp_if_eqB (tgt := 19) d_Frs_doubleFirst_14 (by decide) (fun c14 => ?_) (fun c14 => ?_)
  · refine wp_aload_n d_Frs_doubleFirst_19 rfl 1 rfl ?_
    refine wp_aload_n d_Frs_doubleFirst_20 rfl 1 rfl ?_
    refine wp_aload_n d_Frs_doubleFirst_21 rfl 1 rfl ?_
    refine wn_get_Frs d_Frs_doubleFirst_22 (hf) 0 (by decide) wF_Frs_17 rfl ?_
    refine wp_toVR (o := some r) (z := .ref r) (hR) rfl ?_
    refine wn_len (len := cap) d_Frs_doubleFirst_25 (hr) rfl (hNr) ?_
    refine wp_iconst (v := nI 1) d_Frs_doubleFirst_26 (by decide) ?_
    refine wp_isubN d_Frs_doubleFirst_27 (by omega) ?_
    refine wp_callV (r := 1) d_Frs_doubleFirst_28 (link_V (as := [.int (nI (cap - 1))]) (rest := [.ref f]) (r := (R_Frs, T_Frs, 3)) d_Frs_doubleFirst_28 cal_Frs_placeOf wM_Frs_30 rfl (hN_o (hf) (by decide)) rfl) cal_Frs_placeOf (c_Frs_placeOf hf hr hR hNr hcap hst hst2 hn hn2 (by omega)) (Nat.le_of_ble_eq_true rfl) ⟨Nat.le_of_ble_eq_true rfl, Nat.le_of_ble_eq_true rfl⟩ ?_
    have hmd := Nat.mod_lt (st + (cap - 1)) (show 0 < cap by omega)
    refine wn_put_Frs (ty := t_Frs 1) (I' := u2 I 36 f (nI ((st + (cap - 1)) % cap))) (R' := R) (L' := L) d_Frs_doubleFirst_31 (hf) 1 (by decide) wF_Frs_27 rfl (t_Frs_ok 1 (by decide)) rfl rfl sF_36 (oI _ _ _ 36 _) ?_
    refine wp_aload_n d_Frs_doubleFirst_34 rfl 1 rfl ?_
    refine wn_get_Frs d_Frs_doubleFirst_35 (hf) 0 (by decide) wF_Frs_17 rfl ?_
    refine wp_toVR (o := some r) (z := .ref r) (hR) rfl ?_
    refine wp_aload_n d_Frs_doubleFirst_38 rfl 1 rfl ?_
    refine wn_get_Frs d_Frs_doubleFirst_39 (hf) 1 (by decide) wF_Frs_27 rfl ?_
    refine wp_toI (z := (nI ((st + (cap - 1)) % cap))) (by rw [u2_at, if_pos rfl]) ?_
    refine wp_aload_n d_Frs_doubleFirst_42 rfl 0 rfl ?_
    refine wn_ast d_Frs_doubleFirst_43 (hr) rfl (by decide) (hka) (by decide) rfl (by rw [hNr]; omega) (by rw [hNr]; omega) ?_
    refine wp_aload_n d_Frs_doubleFirst_44 rfl 1 rfl ?_
    refine wp_dup d_Frs_doubleFirst_45 rfl ?_
    refine wn_get_Frs d_Frs_doubleFirst_46 (hf) 2 (by decide) wF_Frs_23 rfl ?_
    refine wp_toI (z := (nI n)) (by rw [u2_ne _ _ (by decide)]; exact hn) ?_
    refine wp_iconst (v := nI 1) d_Frs_doubleFirst_49 (by decide) ?_
    refine wp_iaddN d_Frs_doubleFirst_50 ?_
    refine wn_put_Frs (ty := t_Frs 2) (I' := u2 (u2 I 36 f (nI ((st + (cap - 1)) % cap))) 37 f (nI (n + 1))) (R' := R) (L' := L) d_Frs_doubleFirst_51 (hf) 2 (by decide) wF_Frs_23 rfl (t_Frs_ok 2 (by decide)) rfl rfl sF_37 (oI _ _ _ 37 _) ?_
    refine wp_iconst (v := nI 1) d_Frs_doubleFirst_54 (by decide) ?_
    exact wp_zret (ty := .boolean) d_Frs_doubleFirst_55 rfl rfl ⟨resI (bI_one (rfl)), rfl⟩
  · exact absurd (of_decide_eq_true c14) (by omega)
set_option maxRecDepth 20000 in
theorem c_Frs_loseAll {G : Gt} {K N : Nat → Nat} {I : Nat → Nat → Int32} {R : Nat → Nat → Option Nat} {L : Nat → Nat → Int64} {E : Nat → Nat → Int32} {El : Nat → Nat → Int64} {Er : Nat → Nat → Option Nat} {f r cap st n : Nat} (hf : K f = 7 + 1) (hr : K r = 20 + 5) (hR : R 35 f = some r) (hNr : N r = cap) (hcap : 1 ≤ cap ∧ cap ≤ 1000) (hst : I 36 f = nI st) (hst2 : st < cap) (hn : I 37 f = nI n) (hn2 : n ≤ cap) : CallR G m_Frs_loseAll 0 0 [.ref f] (hN K N I R L E El Er) 0 0 none (hN K N (u2 (u2 I 36 f (nI 0)) 37 f (nI 0)) R L E El Er) := by
  refine CallS.of (Nat.le_of_ble_eq_true rfl) ?_
  refine wp_aload_n d_Frs_loseAll_0 rfl 0 rfl ?_
  refine wp_iconst (v := nI 0) d_Frs_loseAll_1 (by decide) ?_
  refine wn_put_Frs (ty := t_Frs 1) (I' := u2 I 36 f (nI 0)) (R' := R) (L' := L) d_Frs_loseAll_2 (hf) 1 (by decide) wF_Frs_27 rfl (t_Frs_ok 1 (by decide)) rfl rfl sF_36 (oI _ _ _ 36 _) ?_
  refine wp_aload_n d_Frs_loseAll_5 rfl 0 rfl ?_
  refine wp_iconst (v := nI 0) d_Frs_loseAll_6 (by decide) ?_
  refine wn_put_Frs (ty := t_Frs 2) (I' := u2 (u2 I 36 f (nI 0)) 37 f (nI 0)) (R' := R) (L' := L) d_Frs_loseAll_7 (hf) 2 (by decide) wF_Frs_23 rfl (t_Frs_ok 2 (by decide)) rfl rfl sF_37 (oI _ _ _ 37 _) ?_
  exact wp_vret d_Frs_loseAll_10 rfl ⟨rfl, rfl⟩
end Cls2
