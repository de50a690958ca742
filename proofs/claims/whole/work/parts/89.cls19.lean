section Cls19
set_option maxRecDepth 20000 in
theorem c_Chn_sendNext0 {G : Gt} {K N : Nat → Nat} {I : Nat → Nat → Int32} {R : Nat → Nat → Option Nat} {L : Nat → Nat → Int64} {E : Nat → Nat → Int32} {El : Nat → Nat → Int64} {Er : Nat → Nat → Option Nat} {Γ : Gm} {ρ : Nat → Nat} {s : Sa} (hR : RepN Γ ρ K N I R L E El Er s) {c : Nat} (hc : c < 16) (hs : (sLn s (c / 2)).isSome = true) {m : Nat} (hk : cKept (sCh s c) = 20) : CallR G m_Chn_sendNext 1 12 [.ref (Γ 7 c), .int (nI m)] (hN K N I R L E El Er) 0 0 (some (.int (nI 0))) (hN K N I R L E El Er) := by
  refine CallS.of (Nat.le_of_ble_eq_true rfl) ?_
  refine wp_aload_n d_Chn_sendNext_0 rfl 0 rfl ?_
  refine wn_get_Chn d_Chn_sendNext_1 ((hR.ci c hc hs).1) 1 (by decide) wF_Chn_22 rfl ?_
  refine wp_toVR (o := some (Γ 10 c)) (z := .ref (Γ 10 c)) ((hR.ci c hc hs).2.2.2.1) rfl ?_
  refine wp_callV (r := 0) d_Chn_sendNext_4 (link_V (as := []) (rest := []) (r := (R_Frs, T_Frs, 3)) d_Chn_sendNext_4 cal_Frs_isFull wM_Chn_59 rfl (hN_o ((rg_n ((hR.ri c hc hs).2.2.2.2.1)).1) (by decide)) rfl) cal_Frs_isFull (((hR.ri c hc hs).2.2.2.2.1).full) (Nat.le_of_ble_eq_true rfl) ⟨Nat.le_of_ble_eq_true rfl, Nat.le_of_ble_eq_true rfl⟩ ?_
  refine wp_toI (z := (bI true)) (congrArg bI (by rw [kpF_n]; exact beq_iff_eq.mpr hk)) ?_
  refine wp_if_eqB (tgt := 12) d_Chn_sendNext_7 (by decide) (fun c => absurd c (by decide)) (fun _ => ?_)
  refine wp_iconst (v := nI 0) d_Chn_sendNext_10 (by decide) ?_
  exact wp_iret d_Chn_sendNext_11 rfl ⟨rfl, rfl⟩
set_option maxRecDepth 20000 in
theorem c_Chn_sendNext1 {G : Gt} {K N : Nat → Nat} {I : Nat → Nat → Int32} {R : Nat → Nat → Option Nat} {L : Nat → Nat → Int64} {E : Nat → Nat → Int32} {El : Nat → Nat → Int64} {Er : Nat → Nat → Option Nat} {Γ : Gm} {ρ : Nat → Nat} {s : Sa} (hR : RepN Γ ρ K N I R L E El Er s) {c : Nat} (hc : c < 16) (hs : (sLn s (c / 2)).isSome = true) {m : Nat} (hk : ¬ cKept (sCh s c) = 20) (hq0 : ∀ p, quF s c p = []) : CallR G m_Chn_sendNext 2 27 [.ref (Γ 7 c), .int (nI m)] (hN K N I R L E El Er) 0 0 (some (.int (nI 0))) (hN K N I R L E El Er) := by
  refine CallS.of (Nat.le_of_ble_eq_true rfl) ?_
  refine wp_aload_n d_Chn_sendNext_0 rfl 0 rfl ?_
  refine wn_get_Chn d_Chn_sendNext_1 ((hR.ci c hc hs).1) 1 (by decide) wF_Chn_22 rfl ?_
  refine wp_toVR (o := some (Γ 10 c)) (z := .ref (Γ 10 c)) ((hR.ci c hc hs).2.2.2.1) rfl ?_
  refine wp_callV (r := 0) d_Chn_sendNext_4 (link_V (as := []) (rest := []) (r := (R_Frs, T_Frs, 3)) d_Chn_sendNext_4 cal_Frs_isFull wM_Chn_59 rfl (hN_o ((rg_n ((hR.ri c hc hs).2.2.2.2.1)).1) (by decide)) rfl) cal_Frs_isFull (((hR.ri c hc hs).2.2.2.2.1).full) (Nat.le_of_ble_eq_true rfl) ⟨Nat.le_of_ble_eq_true rfl, Nat.le_of_ble_eq_true rfl⟩ ?_
  refine wp_toI (z := (bI false)) (congrArg bI (by rw [kpF_n]; exact beq_eq_false_iff_ne.mpr hk)) ?_
  refine wp_if_eqB (tgt := 12) d_Chn_sendNext_7 (by decide) (fun _ => ?_) (fun c => absurd c (by decide))
  refine wp_aload_n d_Chn_sendNext_12 rfl 0 rfl ?_
  refine wp_callV (r := 0) d_Chn_sendNext_13 (link_V (as := []) (rest := []) (r := (R_Chn, T_Chn, 7)) d_Chn_sendNext_13 cal_Chn_takeMostUrgent wM_Chn_63 rfl (hN_o ((hR.ci c hc hs).1) (by decide)) rfl) cal_Chn_takeMostUrgent (c_Chn_takeMostUrgent0 hR hc hs hq0) (Nat.le_of_ble_eq_true rfl) ⟨Nat.le_of_ble_eq_true rfl, Nat.le_of_ble_eq_true rfl⟩ ?_
  refine wp_astore_nN (lv' := [(2, .null), (0, .ref (Γ 7 c)), (1, .int (nI m))]) d_Chn_sendNext_16 rfl (by decide) rfl ?_
  refine wp_aload_nN d_Chn_sendNext_17 rfl 0 rfl ?_
  refine wp_ifnonnullN d_Chn_sendNext_18 ?_
  refine wp_iconst (v := nI 0) d_Chn_sendNext_21 (by decide) ?_
  exact wp_iret d_Chn_sendNext_22 rfl ⟨rfl, rfl⟩
set_option maxRecDepth 20000 in
theorem c_Chn_sendNext2 {G : Gt} {K N : Nat → Nat} {I : Nat → Nat → Int32} {R : Nat → Nat → Option Nat} {L : Nat → Nat → Int64} {E : Nat → Nat → Int32} {El : Nat → Nat → Int64} {Er : Nat → Nat → Option Nat} {Γ : Gm} {ρ : Nat → Nat} {s : Sa} (hR : RepN Γ ρ K N I R L E El Er s) {c : Nat} (hc : c < 16) (hs : (sLn s (c / 2)).isSome = true) {m b a : Nat} {e : Cy} {xs : List Nat} (hmin : sMin s = m) (hk : ¬ cKept (sCh s c) = 20) (hkb : cKept (sCh s c) ≤ 20 ∧ cKept (sCh s c) ≤ (cSent (sCh s c)).length) (hsn : (cSent (sCh s c)).length < 900) (be1 : (sCp s)[b]? = some e) (hp5 : prioOf s e.2.1 < 5) (be3 : ∀ p, p < prioOf s e.2.1 → quF s c p = []) (be5 : ∀ x, x < 6 → c < 16 → hlF (wCp s ((sCp s).eraseIdx b)) x = hlF s x) (be6 : ∀ c2 p2, (c2 ≠ c ∨ p2 ≠ prioOf s e.2.1) → quF (wCp s ((sCp s).eraseIdx b)) c2 p2 = quF s c2 p2) (ka : K a = 2 + 1) (ca : cp1 Γ I R a e) (hxs : ∀ z ∈ xs, K z = 2 + 1 ∧ ρ z = 900000 + (5 * c + prioOf s e.2.1)) (hat : CallE G m_Lst_takeFirst 0 0 [.ref (Γ 9 (5 * c + prioOf s e.2.1))] (hN K N I R L E El Er) 0 0 (some (.ref a)) (fun h' => ∃ I' R', h' = hN K N I' R' L E El Er ∧ lI (Γ 9 (5 * c + prioOf s e.2.1)) I I' ∧ lR (Γ 9 (5 * c + prioOf s e.2.1)) xs R R' ∧ LsC Γ ρ K I' R' (900000 + (5 * c + prioOf s e.2.1)) (Γ 9 (5 * c + prioOf s e.2.1)) (quF (wCp s ((sCp s).eraseIdx b)) c (prioOf s e.2.1)))) : CallE G m_Chn_sendNext 3 42 [.ref (Γ 7 c), .int (nI m)] (hN K N I R L E El Er) 1 3 (some (.int (nI ((cSent (sCh s c)).length + 1)))) (NetK Γ (sendS s c b) K I R) := by
  refine CallS.of (Nat.le_of_ble_eq_true rfl) ?_
  refine wp_aload_n d_Chn_sendNext_0 rfl 0 rfl ?_
  refine wn_get_Chn d_Chn_sendNext_1 ((hR.ci c hc hs).1) 1 (by decide) wF_Chn_22 rfl ?_
  refine wp_toVR (o := some (Γ 10 c)) (z := .ref (Γ 10 c)) ((hR.ci c hc hs).2.2.2.1) rfl ?_
  refine wp_callV (r := 0) d_Chn_sendNext_4 (link_V (as := []) (rest := []) (r := (R_Frs, T_Frs, 3)) d_Chn_sendNext_4 cal_Frs_isFull wM_Chn_59 rfl (hN_o ((rg_n ((hR.ri c hc hs).2.2.2.2.1)).1) (by decide)) rfl) cal_Frs_isFull (((hR.ri c hc hs).2.2.2.2.1).full) (Nat.le_of_ble_eq_true rfl) ⟨Nat.le_of_ble_eq_true rfl, Nat.le_of_ble_eq_true rfl⟩ ?_
  refine wp_toI (z := (bI false)) (congrArg bI (by rw [kpF_n]; exact beq_eq_false_iff_ne.mpr hk)) ?_
  refine wp_if_eqB (tgt := 12) d_Chn_sendNext_7 (by decide) (fun _ => ?_) (fun c => absurd c (by decide))
  refine wp_aload_n d_Chn_sendNext_12 rfl 0 rfl ?_
  refine wp_callEV (k' := 0) (n' := 0) (r := 0) d_Chn_sendNext_13 (link_V (as := []) (rest := []) (r := (R_Chn, T_Chn, 7)) d_Chn_sendNext_13 cal_Chn_takeMostUrgent wM_Chn_63 rfl (hN_o ((hR.ci c hc hs).1) (by decide)) rfl) cal_Chn_takeMostUrgent (c_Chn_takeMostUrgent1 hR hc hs hp5 be3 hat) (Nat.le_of_ble_eq_true rfl) ⟨Nat.le_of_ble_eq_true rfl, Nat.le_of_ble_eq_true rfl⟩ (fun h' q13 => ?_)
  obtain ⟨I2, R2, rfl, l1, l2, l3⟩ := q13
  have hR2 : RepN Γ ρ K N I2 R2 L E El Er (wCp s ((sCp s).eraseIdx b)) := hR.qu1 hc hs hp5 hxs l1 l2 l3 (fun x hx => be5 x hx hc) (fun c2 p2 _ _ hne => be6 c2 p2 hne)
  have kp1 : Kp K I R K I2 R2 := Kp_l l1 l2
  have a14 : R2 14 a = some (Γ 14 e.2.1) := ((kp1 a (by omega)).2.1).trans ca.1
  have a15 : I2 15 a = nI e.2.2.1 := ((kp1 a (by omega)).2.2.2.1).trans ca.2.1
  refine wp_astore_n (lv' := [(2, .ref a), (0, .ref (Γ 7 c)), (1, .int (nI m))]) d_Chn_sendNext_16 rfl (by decide) rfl ?_
  refine wp_aload_n d_Chn_sendNext_17 rfl 0 rfl ?_
  refine wp_ifnonnull (tgt := 23) d_Chn_sendNext_18 (by decide) ?_
  refine wp_aload_n d_Chn_sendNext_23 rfl 1 rfl ?_
  refine wn_get_Chn d_Chn_sendNext_24 ((hR.ci c hc hs).1) 3 (by decide) wF_Chn_29 rfl ?_
  refine wp_toI (z := (nI ((cSent (sCh s c)).length + 1))) ((hR2.ci c hc hs).2.2.2.2.2.2.2.1) ?_
  refine wp_istore_n (lv' := [(3, .int (nI ((cSent (sCh s c)).length + 1))), (2, .ref a), (0, .ref (Γ 7 c)), (1, .int (nI m))]) d_Chn_sendNext_27 rfl (by decide) rfl ?_
  refine wp_aload_n d_Chn_sendNext_28 rfl 2 rfl ?_
  refine wp_iload_n d_Chn_sendNext_29 rfl 0 rfl ?_
  refine wp_callV (r := 1) d_Chn_sendNext_30 (link_SN (av := [.int (nI ((cSent (sCh s c)).length + 1))]) (rest := [.ref (Γ 7 c)]) d_Chn_sendNext_30 cal_Net_serialBehind wN_Chn_66 wM_Chn_66 rfl) cal_Net_serialBehind (c_Net_serialBehind (x := (cSent (sCh s c)).length + 1) (by omega)) (Nat.le_of_ble_eq_true rfl) ⟨Nat.le_of_ble_eq_true rfl, Nat.le_of_ble_eq_true rfl⟩ ?_
  refine wp_toI (z := (nI ((cSent (sCh s c)).length + 1 + 1))) (congrArg nI (by omega)) ?_
  refine wn_put_Chn (ty := t_Chn 3) (I' := u2 I2 10 (Γ 7 c) (nI ((cSent (sCh s c)).length + 1 + 1))) (R' := R2) (L' := L) d_Chn_sendNext_33 ((hR.ci c hc hs).1) 3 (by decide) wF_Chn_29 rfl (t_Chn_ok 3 (by decide)) rfl rfl sF_10 (oI _ _ _ 10 _) ?_
  refine wn_new_Frm d_Chn_sendNext_36 wC_Chn_70 (DF.pI (hR2.df) (knz ((hR.ci c hc hs).1))) (fun q1 hq1 => ?_)
  refine wp_dup d_Chn_sendNext_39 rfl ?_
  refine wp_iload_n d_Chn_sendNext_40 rfl 0 rfl ?_
  refine wp_aload_n d_Chn_sendNext_41 rfl 1 rfl ?_
  refine wp_iconst (v := nI 0) d_Chn_sendNext_42 (by decide) ?_
  refine wp_callU (r := 1) d_Chn_sendNext_43 (link_I (as := [.int (nI ((cSent (sCh s c)).length + 1)), .ref a, .int (bI false)]) (rest := [.ref q1]) d_Chn_sendNext_43 cal_Frm_init rfl wM_Chn_72 rfl) cal_Frm_init (c_Frm_init1 (se := nI ((cSent (sCh s c)).length + 1)) (b := false) (c := a) (kat _ _ _)) (Nat.le_of_ble_eq_true rfl) ⟨Nat.le_of_ble_eq_true rfl, Nat.le_of_ble_eq_true rfl⟩ ?_
  refine wp_astore (lv' := [(4, .ref q1), (3, .int (nI ((cSent (sCh s c)).length + 1))), (2, .ref a), (0, .ref (Γ 7 c)), (1, .int (nI m))]) d_Chn_sendNext_46 (by decide) rfl ?_
  have ks : K q1 = 0 := hq1
  have rg0 : RgF Γ (va_up K q1 (6 + 1)) N (u2 (u2 (u2 I2 10 (Γ 7 c) (nI ((cSent (sCh s c)).length + 1 + 1))) 32 q1 (nI ((cSent (sCh s c)).length + 1))) 34 q1 (bI false)) (u2r R2 33 q1 (some a)) Er (Γ 10 c) (Γ 11 c) 20 (cSent (sCh s c) ++ [(e.2.1, e.2.2.1)]) (kpF (sCh s c)) := ((((hR2.ri c hc hs).2.2.2.2.1).ext (e.2.1, e.2.2.1)).u (by decide)).fr (Fr0_newF (ρ := ρ) (L := L) (E := E) (El := El) hq1 _ _ _) (by decide) (by decide) List.not_mem_nil
  have qa : a ≠ q1 := fun z => by rw [z, ks] at ka; omega
  have fq : fr1 Γ (va_up K q1 (6 + 1)) (u2 (u2 (u2 I2 10 (Γ 7 c) (nI ((cSent (sCh s c)).length + 1 + 1))) 32 q1 (nI ((cSent (sCh s c)).length + 1))) 34 q1 (bI false)) (u2r R2 33 q1 (some a)) (cSent (sCh s c) ++ [(e.2.1, e.2.2.1)]) q1 (0, (cSent (sCh s c)).length + 1) := ⟨by rw [u2_ne _ _ (by decide), u2_at, if_pos rfl], fun _ => ⟨a, (e.2.1, e.2.2.1), by rw [u2r_at, if_pos rfl], by simp, by simp [va_up, qa, ka], by rw [u2r_ne _ _ (by decide)]; exact a14, by rw [u2_ne _ _ (by decide), u2_ne _ _ (by decide), u2_ne _ _ (by decide)]; exact a15⟩, fun h0 => absurd rfl h0⟩
  have kpn : Kp K I2 R2 (va_up K q1 (6 + 1)) (u2 (u2 (u2 I2 10 (Γ 7 c) (nI ((cSent (sCh s c)).length + 1 + 1))) 32 q1 (nI ((cSent (sCh s c)).length + 1))) 34 q1 (bI false)) (u2r R2 33 q1 (some a)) := (Kp_u (x := nI ((cSent (sCh s c)).length + 1 + 1)) (by decide)).tr (Kp_newF (L := L) (N := N) (E := E) (El := El) (Er := Er) hq1 _ _ _)
  refine wp_aload_n d_Chn_sendNext_48 rfl 3 rfl ?_
  refine wn_get_Chn d_Chn_sendNext_49 (kup hq1 ((hR.ci c hc hs).1)) 1 (by decide) wF_Chn_22 rfl ?_
  refine wp_toVR (o := some (Γ 10 c)) (z := .ref (Γ 10 c)) (by rw [u2r_ne _ _ (by decide)]; exact (hR2.ci c hc hs).2.2.2.1) rfl ?_
  refine wp_aload d_Chn_sendNext_52 0 rfl ?_
  refine wp_callEU (k' := 0) (n' := 0) (r := 0) d_Chn_sendNext_54 (link_V (as := [.ref q1]) (rest := []) (r := (R_Frs, T_Frs, 3)) d_Chn_sendNext_54 cal_Frs_add wM_Chn_75 rfl (hN_o (kup hq1 ((rg_n ((hR.ri c hc hs).2.2.2.2.1)).1)) (by decide)) rfl) cal_Frs_add (rg0.add (kat _ _ _) fq) (Nat.le_of_ble_eq_true rfl) ⟨Nat.le_of_ble_eq_true rfl, Nat.le_of_ble_eq_true rfl⟩ (fun h' q54 => ?_)
  obtain ⟨I3, Er3, rfl, f1, f2, f3⟩ := q54
  rw [if_neg (by rw [kpF_n]; exact hk)] at f3
  have hR3 : RepN Γ ρ (va_up K q1 (6 + 1)) N I3 (u2r R2 33 q1 (some a)) L E El Er3 (ch1 (wCp s ((sCp s).eraseIdx b)) c (sentC (sCh s c) (e.2.1, e.2.2.1))) := hR2.sent (x := (e.2.1, e.2.2.1)) hc hs hkb.2 (show cKept (sCh s c) < 20 by omega) hq1 ka a14 a15 f1 f2 f3
  have fq3 : fr1 Γ (va_up K q1 (6 + 1)) I3 (u2r R2 33 q1 (some a)) (cSent (sCh (ch1 (wCp s ((sCp s).eraseIdx b)) c (sentC (sCh s c) (e.2.1, e.2.2.1))) c)) q1 (0, (cSent (sCh s c)).length + 1) := by rw [ch1_at]; exact fq.o f1
  refine wp_aload_n d_Chn_sendNext_57 rfl 3 rfl ?_
  refine wp_aload d_Chn_sendNext_58 0 rfl ?_
  refine wp_iload_n d_Chn_sendNext_60 rfl 4 rfl ?_
  refine wp_callEU (k' := 0) (n' := 0) (r := 0) d_Chn_sendNext_61 (link_V (as := [.ref q1, .int (nI m)]) (rest := []) (r := (R_Chn, T_Chn, 7)) d_Chn_sendNext_61 cal_Chn_putMessage wM_Chn_78 rfl (hN_o ((hR3.ci c hc hs).1) (by decide)) rfl) cal_Chn_putMessage (c_Chn_putMessage hR3 hc hs (kat _ _ _) fq3) (Nat.le_of_ble_eq_true rfl) ⟨Nat.le_of_ble_eq_true rfl, Nat.le_of_ble_eq_true rfl⟩ (fun h' q61 => ?_)
  obtain ⟨ρ4, K4, N4, I4, R4, L4, E4, El4, Er4, rfl, hR4, kp4⟩ := q61
  refine wp_iload_n d_Chn_sendNext_64 rfl 1 rfl ?_
  exact wp_iret d_Chn_sendNext_65 rfl ⟨rfl, ρ4, K4, N4, I4, R4, L4, E4, El4, Er4, rfl, by have h9 := hR4; rw [ch1_at] at h9; rw [send_eq be1, hmin, layKept_pm, show (cSent (sentC (sCh s c) (e.2.1, e.2.2.1))).length - cKept (sentC (sCh s c) (e.2.1, e.2.2.1)) + cKept (sCh s c) + 1 = (cSent (sCh s c)).length + 1 by show (cSent (sCh s c) ++ [(e.2.1, e.2.2.1)]).length - (cKept (sCh s c) + 1) + cKept (sCh s c) + 1 = _; rw [List.length_append, List.length_singleton]; omega]; exact h9, ((kp1.tr kpn).tr (Kp_f f1)).tr kp4⟩
set_option maxRecDepth 20000 in
theorem c_Net_sendLX {G : Gt} {K N : Nat → Nat} {I : Nat → Nat → Int32} {R : Nat → Nat → Option Nat} {L : Nat → Nat → Int64} {E : Nat → Nat → Int32} {El : Nat → Nat → Int64} {Er : Nat → Nat → Option Nat} {Γ : Gm} {ρ : Nat → Nat} {s : Sa} (hR : RepN Γ ρ K N I R L E El Er s) {x c : Int32} (hx : hasB (lnB s) x = false) : CallT G m_Net_send 7 95 [.ref (Γ 0 0), .int x, .int c] (hN K N I R L E El Er) 1 6 0 (fun h' => h' = (hN K N I R L E El Er)) := by
  refine CallS.of (Nat.le_of_ble_eq_true rfl) ?_
  refine wp_aload_n d_Net_send_0 rfl 0 rfl ?_
  refine wp_iload_n d_Net_send_1 rfl 1 rfl ?_
  exact wp_callT (k' := 1) (n' := 6) (r := 0) d_Net_send_2 (link_V (as := [.int x]) (rest := []) (r := (R_Net, T_Net, 7)) d_Net_send_2 cal_Net_lineAt wM_Net_127 rfl (hN_o (hR.nt.1) (by decide)) rfl) cal_Net_lineAt rfl (c_Net_lineAtX hR hx) (Nat.le_of_ble_eq_true rfl) ⟨Nat.le_of_ble_eq_true rfl, Nat.le_of_ble_eq_true rfl⟩ (fun h' q => ⟨rfl, q⟩)
set_option maxRecDepth 20000 in
theorem c_Net_sendCX {G : Gt} {K N : Nat → Nat} {I : Nat → Nat → Int32} {R : Nat → Nat → Option Nat} {L : Nat → Nat → Int64} {E : Nat → Nat → Int32} {El : Nat → Nat → Int64} {Er : Nat → Nat → Option Nat} {Γ : Gm} {ρ : Nat → Nat} {s : Sa} (hR : RepN Γ ρ K N I R L E El Er s) {l a b : Nat} {v : Bool} (hl : l < 8) (hv : sLn s l = some (a, b, v)) {c : Int32} (hx : inZ c (nI 0) (nI 1) = false) : CallT G m_Net_send 7 95 [.ref (Γ 0 0), .int (nI l), .int c] (hN K N I R L E El Er) 1 6 0 (fun h' => h' = (hN K N I R L E El Er)) := by
  refine CallS.of (Nat.le_of_ble_eq_true rfl) ?_
  refine wp_aload_n d_Net_send_0 rfl 0 rfl ?_
  refine wp_iload_n d_Net_send_1 rfl 1 rfl ?_
  refine wp_callV (r := 0) d_Net_send_2 (link_V (as := [.int (nI l)]) (rest := []) (r := (R_Net, T_Net, 7)) d_Net_send_2 cal_Net_lineAt wM_Net_127 rfl (hN_o (hR.nt.1) (by decide)) rfl) cal_Net_lineAt (c_Net_lineAt hR hl hv) (Nat.le_of_ble_eq_true rfl) ⟨Nat.le_of_ble_eq_true rfl, Nat.le_of_ble_eq_true rfl⟩ ?_
  refine wp_astore_n (lv' := [(3, .ref (Γ 6 l)), (0, .ref (Γ 0 0)), (1, .int (nI l)), (2, .int c)]) d_Net_send_5 rfl (by decide) rfl ?_
  refine wp_aload_n d_Net_send_6 rfl 0 rfl ?_
  refine wp_iload_n d_Net_send_7 rfl 3 rfl ?_
  exact wp_callT (k' := 1) (n' := 6) (r := 0) d_Net_send_8 (link_V (as := [.int c]) (rest := []) (r := (R_Lin, T_Lin, 5)) d_Net_send_8 cal_Lin_channelAt wM_Net_131 rfl (hN_o (((hR.li l hl).2 _ _ _ hv).2.1) (by decide)) rfl) cal_Lin_channelAt rfl (c_Lin_channelAtX hx) (Nat.le_of_ble_eq_true rfl) ⟨Nat.le_of_ble_eq_true rfl, Nat.le_of_ble_eq_true rfl⟩ (fun h' q => ⟨rfl, q⟩)
set_option maxRecDepth 20000 in
theorem c_Net_send0 {G : Gt} {K N : Nat → Nat} {I : Nat → Nat → Int32} {R : Nat → Nat → Option Nat} {L : Nat → Nat → Int64} {E : Nat → Nat → Int32} {El : Nat → Nat → Int64} {Er : Nat → Nat → Option Nat} {Γ : Gm} {ρ : Nat → Nat} {s : Sa} (hR : RepN Γ ρ K N I R L E El Er s) {l a b : Nat} (hl : l < 8) (hv : sLn s l = some (a, b, false)) {c : Nat} (hc : c < 2) : CallR G m_Net_send 7 95 [.ref (Γ 0 0), .int (nI l), .int (nI c)] (hN K N I R L E El Er) 0 0 (some (.int (nI 0))) (hN K N I R L E El Er) := by
  have hc16 : 2 * l + c < 16 := by omega
  have hs : (sLn s ((2 * l + c) / 2)).isSome = true := by rw [show (2 * l + c) / 2 = l by omega, hv]; rfl
  refine CallS.of (Nat.le_of_ble_eq_true rfl) ?_
  refine wp_aload_n d_Net_send_0 rfl 0 rfl ?_
  refine wp_iload_n d_Net_send_1 rfl 1 rfl ?_
  refine wp_callV (r := 0) d_Net_send_2 (link_V (as := [.int (nI l)]) (rest := []) (r := (R_Net, T_Net, 7)) d_Net_send_2 cal_Net_lineAt wM_Net_127 rfl (hN_o (hR.nt.1) (by decide)) rfl) cal_Net_lineAt (c_Net_lineAt hR hl hv) (Nat.le_of_ble_eq_true rfl) ⟨Nat.le_of_ble_eq_true rfl, Nat.le_of_ble_eq_true rfl⟩ ?_
  refine wp_astore_n (lv' := [(3, .ref (Γ 6 l)), (0, .ref (Γ 0 0)), (1, .int (nI l)), (2, .int (nI c))]) d_Net_send_5 rfl (by decide) rfl ?_
  refine wp_aload_n d_Net_send_6 rfl 0 rfl ?_
  refine wp_iload_n d_Net_send_7 rfl 3 rfl ?_
  refine wp_callV (r := 0) d_Net_send_8 (link_V (as := [.int (nI c)]) (rest := []) (r := (R_Lin, T_Lin, 5)) d_Net_send_8 cal_Lin_channelAt wM_Net_131 rfl (hN_o (((hR.li l hl).2 _ _ _ hv).2.1) (by decide)) rfl) cal_Lin_channelAt (c_Lin_channelAt hR hl hv hc) (Nat.le_of_ble_eq_true rfl) ⟨Nat.le_of_ble_eq_true rfl, Nat.le_of_ble_eq_true rfl⟩ ?_
  refine wp_astore (lv' := [(4, .ref (Γ 7 (2 * l + c))), (3, .ref (Γ 6 l)), (0, .ref (Γ 0 0)), (1, .int (nI l)), (2, .int (nI c))]) d_Net_send_11 (by decide) rfl ?_
  refine wp_aload_n d_Net_send_13 rfl 1 rfl ?_
  refine wn_get_Lin d_Net_send_14 (((hR.li l hl).2 _ _ _ hv).2.1) 4 (by decide) wF_Net_135 rfl ?_
  refine wp_toI (z := (bI false)) (((hR.li l hl).2 _ _ _ hv).2.2.2.2.2.2.2) ?_
  refine wp_if_eqB (tgt := 32) d_Net_send_17 (by decide) (fun _ => ?_) (fun c => absurd c (by decide))
  refine wp_iconst (v := nI 0) d_Net_send_32 (by decide) ?_
  exact wp_iret d_Net_send_33 rfl ⟨rfl, rfl⟩
set_option maxRecDepth 20000 in
theorem c_Net_send1 {G : Gt} {K N : Nat → Nat} {I : Nat → Nat → Int32} {R : Nat → Nat → Option Nat} {L : Nat → Nat → Int64} {E : Nat → Nat → Int32} {El : Nat → Nat → Int64} {Er : Nat → Nat → Option Nat} {Γ : Gm} {ρ : Nat → Nat} {s : Sa} (hR : RepN Γ ρ K N I R L E El Er s) {l a b : Nat} (hl : l < 8) (hv : sLn s l = some (a, b, true)) {c : Nat} (hc : c < 2) {v : Int32} {Pq : AHp → Prop} (hcall : CallE G m_Chn_sendNext 3 42 [.ref (Γ 7 (2 * l + c)), .int (nI (sMin s))] (hN K N I R L E El Er) 1 3 (some (.int v)) Pq) : CallE G m_Net_send 7 95 [.ref (Γ 0 0), .int (nI l), .int (nI c)] (hN K N I R L E El Er) 1 3 (some (.int v)) Pq := by
  have hc16 : 2 * l + c < 16 := by omega
  have hs : (sLn s ((2 * l + c) / 2)).isSome = true := by rw [show (2 * l + c) / 2 = l by omega, hv]; rfl
  refine CallS.of (Nat.le_of_ble_eq_true rfl) ?_
  refine wp_aload_n d_Net_send_0 rfl 0 rfl ?_
  refine wp_iload_n d_Net_send_1 rfl 1 rfl ?_
  refine wp_callV (r := 0) d_Net_send_2 (link_V (as := [.int (nI l)]) (rest := []) (r := (R_Net, T_Net, 7)) d_Net_send_2 cal_Net_lineAt wM_Net_127 rfl (hN_o (hR.nt.1) (by decide)) rfl) cal_Net_lineAt (c_Net_lineAt hR hl hv) (Nat.le_of_ble_eq_true rfl) ⟨Nat.le_of_ble_eq_true rfl, Nat.le_of_ble_eq_true rfl⟩ ?_
  refine wp_astore_n (lv' := [(3, .ref (Γ 6 l)), (0, .ref (Γ 0 0)), (1, .int (nI l)), (2, .int (nI c))]) d_Net_send_5 rfl (by decide) rfl ?_
  refine wp_aload_n d_Net_send_6 rfl 0 rfl ?_
  refine wp_iload_n d_Net_send_7 rfl 3 rfl ?_
  refine wp_callV (r := 0) d_Net_send_8 (link_V (as := [.int (nI c)]) (rest := []) (r := (R_Lin, T_Lin, 5)) d_Net_send_8 cal_Lin_channelAt wM_Net_131 rfl (hN_o (((hR.li l hl).2 _ _ _ hv).2.1) (by decide)) rfl) cal_Lin_channelAt (c_Lin_channelAt hR hl hv hc) (Nat.le_of_ble_eq_true rfl) ⟨Nat.le_of_ble_eq_true rfl, Nat.le_of_ble_eq_true rfl⟩ ?_
  refine wp_astore (lv' := [(4, .ref (Γ 7 (2 * l + c))), (3, .ref (Γ 6 l)), (0, .ref (Γ 0 0)), (1, .int (nI l)), (2, .int (nI c))]) d_Net_send_11 (by decide) rfl ?_
  refine wp_aload_n d_Net_send_13 rfl 1 rfl ?_
  refine wn_get_Lin d_Net_send_14 (((hR.li l hl).2 _ _ _ hv).2.1) 4 (by decide) wF_Net_135 rfl ?_
  refine wp_toI (z := (bI true)) (((hR.li l hl).2 _ _ _ hv).2.2.2.2.2.2.2) ?_
  refine wp_if_eqB (tgt := 32) d_Net_send_17 (by decide) (fun c => absurd c (by decide)) (fun _ => ?_)
  refine wp_aload d_Net_send_20 0 rfl ?_
  refine wp_aload_n d_Net_send_22 rfl 2 rfl ?_
  refine wn_get_Net d_Net_send_23 (hR.nt.1) 6 (by decide) wF_Net_139 rfl ?_
  refine wp_toI (z := (nI (sMin s))) (hR.nt.2.2.2.2.2.2.2.1) ?_
  refine wp_callEV (k' := 1) (n' := 3) (r := 0) d_Net_send_26 (link_V (as := [.int (nI (sMin s))]) (rest := []) (r := (R_Chn, T_Chn, 7)) d_Net_send_26 cal_Chn_sendNext wM_Net_142 rfl (hN_o ((hR.ci (2 * l + c) hc16 hs).1) (by decide)) rfl) cal_Chn_sendNext (hcall) (Nat.le_of_ble_eq_true rfl) ⟨Nat.le_of_ble_eq_true rfl, Nat.le_of_ble_eq_true rfl⟩ (fun h' q26 => ?_)
  refine wp_goto (tgt := 33) d_Net_send_29 (by decide) ?_
  exact wp_iret d_Net_send_33 rfl ⟨rfl, q26⟩
theorem n_Net_send {G : Gt} {K N : Nat → Nat} {I : Nat → Nat → Int32} {R : Nat → Nat → Option Nat} {L : Nat → Nat → Int64} {E : Nat → Nat → Int32} {El : Nat → Nat → Int64} {Er : Nat → Nat → Option Nat} {Γ : Gm} {ρ : Nat → Nat} {s : Sa} (hR : RepN Γ ρ K N I R L E El Er s) {n0 : Nat} (hV : Inv n0 s) (l c : Int32) : CallN G m_Net_send 7 95 [.ref (Γ 0 0), .int l, .int c] (hN K N I R L E El Er) 1 6 (stSend s l c) false (Γ 0 0) := by
  unfold stSend chOK
  cases hx : hasB (lnB s) l with
  | false => exact CallN.ofT (c_Net_sendLX hR hx) (by decide) (by decide) (by decide) (by decide) rfl hR.okT
  | true =>
    obtain ⟨j, a, b, v, hl, rfl, hv⟩ := hasB_o hx
    cases hy : inZ c (nI 0) (nI 1) with
    | false => exact CallN.ofT (c_Net_sendCX hR hl hv hy) (by decide) (by decide) (by decide) (by decide) rfl hR.okT
    | true =>
      obtain ⟨i, hi, rfl⟩ := inZ_of (by decide) hy
      have hc : i < 2 := by omega
      rw [Bool.and_self, if_pos rfl, nN_nI (by omega), nN_nI (by omega)]
      have hc16 : 2 * j + i < 16 := by omega
      have hs : (sLn s ((2 * j + i) / 2)).isSome = true := by rw [show (2 * j + i) / 2 = j by omega, hv]; rfl
      have ok := hV.2.2.1.2.2.2.1 (2 * j + i)
      cases v with
      | false =>
        have hsv : serves s j = false := by unfold serves; rw [hv]
        refine CallN.ofR (c_Net_send0 hR hl hv hc) (by decide) (by decide) (by decide) (by decide) ?_ (show NetOK (Γ 0 0) _ _ from ?_)
        · cases hb : bestOf s (2 * j + i) with
          | none => rfl
          | some b => dsimp only; rw [if_pos (Or.inr hsv)]; rfl
        · cases hb : bestOf s (2 * j + i) with
          | none => exact hR.ok
          | some b => dsimp only; rw [if_pos (Or.inr hsv)]; exact hR.ok
      | true =>
        have hsv : serves s j = true := by unfold serves; rw [hv]
        cases hb : bestOf s (2 * j + i) with
        | none =>
          by_cases hk : cKept (sCh s (2 * j + i)) = 20
          · exact CallN.ofE (c_Net_send1 hR hl hv hc (CallS.mono (CallR.E (c_Chn_sendNext0 hR hc16 hs hk) (P := fun h9 => h9 = (hN K N I R L E El Er)) rfl) (by decide) (by decide) (by decide) (by decide) (fun _ _ z => z))) (by decide) (by decide) (by decide) (by decide) rfl (fun h1 e => by rw [e]; exact hR.ok)
          · exact CallN.ofE (c_Net_send1 hR hl hv hc (CallS.mono (CallR.E (c_Chn_sendNext1 hR hc16 hs hk (quF_nil hb)) (P := fun h9 => h9 = (hN K N I R L E El Er)) rfl) (by decide) (by decide) (by decide) (by decide) (fun _ _ z => z))) (by decide) (by decide) (by decide) (by decide) rfl (fun h1 e => by rw [e]; exact hR.ok)
        | some q =>
          dsimp only
          by_cases hk : cKept (sCh s (2 * j + i)) = 20
          · rw [if_pos (Or.inl hk)]
            exact CallN.ofE (c_Net_send1 hR hl hv hc (CallS.mono (CallR.E (c_Chn_sendNext0 hR hc16 hs hk) (P := fun h9 => h9 = (hN K N I R L E El Er)) rfl) (by decide) (by decide) (by decide) (by decide) (fun _ _ z => z))) (by decide) (by decide) (by decide) (by decide) rfl (fun h1 e => by rw [e]; exact hR.ok)
          · rw [if_neg (fun z => z.elim hk (fun z => by rw [hsv] at z; cases z))]
            obtain ⟨e, be1, be2, be3, be4, be5, be6⟩ := best_at hb
            have hok := hV.2.2.1.2.2.1 e (List.mem_of_getElem? be1)
            have hp5 : prioOf s e.2.1 < 5 := by
              obtain ⟨r, hr⟩ := get_of (l := sMs s) (i := e.2.1 - 1) (by have := hok.2.2.1; unfold okP at this; omega)
              unfold prioOf
              rw [List.getD_eq_getElem?_getD, hr]
              exact (hV.ms (List.mem_of_getElem? hr)).1
            have hq := (hR.qu _ hc16 hs _ hp5).2.2
            rw [be4] at hq
            obtain ⟨z, xs, kz, cz, hxs, hat⟩ := hq.take (G := G) (N := N) (L := L) (E := E) (El := El) (Er := Er)
            have hn5 := hV.1
            exact CallN.ofE (c_Net_send1 hR hl hv hc (CallS.mono (c_Chn_sendNext2 hR hc16 hs rfl hk ⟨ok.1, ok.2.1⟩ (by have := ok.2.2.1; omega) be1 hp5 be3 be5 be6 kz cz hxs hat) (by decide) (by decide) (by decide) (by decide) (fun _ _ z => z))) (by decide) (by decide) (by decide) (by decide) rfl (fun _ z => z.to)
end Cls19
