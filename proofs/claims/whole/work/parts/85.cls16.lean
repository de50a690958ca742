section Cls16
set_option maxRecDepth 20000 in
theorem c_Chn_sendAgainFrom0 {G : Gt} {K N : Nat → Nat} {I : Nat → Nat → Int32} {R : Nat → Nat → Option Nat} {L : Nat → Nat → Int64} {E : Nat → Nat → Int32} {El : Nat → Nat → Int64} {Er : Nat → Nat → Option Nat} {Γ : Gm} {ρ : Nat → Nat} {s : Sa} (hR : RepN Γ ρ K N I R L E El Er s) {c : Nat} (hc : c < 16) (hs : (sLn s (c / 2)).isSome = true) {se m : Nat} (hkb : cKept (sCh s c) ≤ 20 ∧ cKept (sCh s c) ≤ (cSent (sCh s c)).length) (hsn : (cSent (sCh s c)).length < 999) (hse : se < 2 ^ 12) (hx : ¬ ((cSent (sCh s c)).length - cKept (sCh s c) < se ∧ se ≤ (cSent (sCh s c)).length)) : CallE G m_Chn_sendAgainFrom 3 43 [.ref (Γ 7 c), .int (nI se), .int (nI m)] (hN K N I R L E El Er) 0 0 none (NetK Γ (s) K I R) := by
  refine CallS.of (Nat.le_of_ble_eq_true rfl) ?_
  refine wp_aload_n d_Chn_sendAgainFrom_0 rfl 0 rfl ?_
  refine wn_get_Chn d_Chn_sendAgainFrom_1 ((hR.ci c hc hs).1) 1 (by decide) wF_Chn_22 rfl ?_
  refine wp_toVR (o := some (Γ 10 c)) (z := .ref (Γ 10 c)) ((hR.ci c hc hs).2.2.2.1) rfl ?_
  refine wp_iload_n d_Chn_sendAgainFrom_4 rfl 1 rfl ?_
  refine wp_callV (r := 0) d_Chn_sendAgainFrom_5 (link_V (as := [.int (nI se)]) (rest := []) (r := (R_Frs, T_Frs, 3)) d_Chn_sendAgainFrom_5 cal_Frs_indexOf wM_Chn_85 rfl (hN_o ((rg_n ((hR.ri c hc hs).2.2.2.2.1)).1) (by decide)) rfl) cal_Frs_indexOf (c_Frs_indexOf hR hc hs hkb hsn hse) (Nat.le_of_ble_eq_true rfl) ⟨Nat.le_of_ble_eq_true rfl, Nat.le_of_ble_eq_true rfl⟩ ?_
  refine wp_toI (z := (-1)) (by rw [amI, if_neg hx]) ?_
  refine wp_istore_n (lv' := [(3, .int (-1)), (0, .ref (Γ 7 c)), (1, .int (nI se)), (2, .int (nI m))]) d_Chn_sendAgainFrom_8 rfl (by decide) rfl ?_
  refine wp_iload_n d_Chn_sendAgainFrom_9 rfl 0 rfl ?_
  refine wp_iconst (v := -1) d_Chn_sendAgainFrom_10 (by decide) ?_
  refine wp_icmp_ne (tgt := 15) d_Chn_sendAgainFrom_11 (by decide) (fun c => absurd c (by decide)) (fun _ => ?_)
  exact wp_vret d_Chn_sendAgainFrom_14 rfl ⟨rfl, hR.k0⟩
set_option maxRecDepth 20000 in
theorem c_Chn_sendAgainFrom1 {G : Gt} {K N : Nat → Nat} {I : Nat → Nat → Int32} {R : Nat → Nat → Option Nat} {L : Nat → Nat → Int64} {E : Nat → Nat → Int32} {El : Nat → Nat → Int64} {Er : Nat → Nat → Option Nat} {Γ : Gm} {ρ : Nat → Nat} {s : Sa} (hR : RepN Γ ρ K N I R L E El Er s) {c : Nat} (hc : c < 16) (hs : (sLn s (c / 2)).isSome = true) {se m : Nat} (hkb : cKept (sCh s c) ≤ 20 ∧ cKept (sCh s c) ≤ (cSent (sCh s c)).length) (hsn : (cSent (sCh s c)).length < 999) (hse : se < 2 ^ 12) (hx : (cSent (sCh s c)).length - cKept (sCh s c) < se ∧ se ≤ (cSent (sCh s c)).length) : CallE G m_Chn_sendAgainFrom 3 43 [.ref (Γ 7 c), .int (nI se), .int (nI m)] (hN K N I R L E El Er) 0 0 none (NetK Γ (ch1 s c (layAll m ((cSent (sCh s c)).length + 1 - se) (se - ((cSent (sCh s c)).length - cKept (sCh s c)) - 1) (sCh s c))) K I R) := by
  refine CallS.of (Nat.le_of_ble_eq_true rfl) ?_
  have L2 : ∀ (f k : Nat) (dk : Ch) (s' : Sa) (ρ' K' N' : Nat → Nat) (I' : Nat → Nat → Int32) (R' : Nat → Nat → Option Nat) (L' : Nat → Nat → Int64) (E' : Nat → Nat → Int32) (El' : Nat → Nat → Int64) (Er' : Nat → Nat → Option Nat), cKept (sCh s c) + 1 - k < f → k ≤ cKept (sCh s c) → RepN Γ ρ' K' N' I' R' L' E' El' Er' s' → Kp K I R K' I' R' → s' = ch1 s c dk → cSent dk = cSent (sCh s c) → cKept dk = cKept (sCh s c) → layAll m (cKept (sCh s c) - k) k dk = layAll m ((cSent (sCh s c)).length + 1 - se) (se - ((cSent (sCh s c)).length - cKept (sCh s c)) - 1) (sCh s c) → WP G m_Chn_sendAgainFrom (3, 43, 0, 0, (hN K N I R L E El Er), fun r9 h9 => r9 = .inl none ∧ (NetK Γ (ch1 s c (layAll m ((cSent (sCh s c)).length + 1 - se) (se - ((cSent (sCh s c)).length - cKept (sCh s c)) - 1) (sCh s c))) K I R) h9) 18 [(4, .int (nI k)), (3, .int (nI (se - ((cSent (sCh s c)).length - cKept (sCh s c)) - 1))), (0, .ref (Γ 7 c)), (1, .int (nI se)), (2, .int (nI m))] [] (hN K' N' I' R' L' E' El' Er') 0 0 := by
    intro f
    induction f with
    | zero =>
      intro k dk s' ρ' K' N' I' R' L' E' El' Er' h1 h2
      omega
    | succ f ih =>
      intro k dk s' ρ' K' N' I' R' L' E' El' Er' hf hk hR' hkp he hsent hkept htg
      have hs' : (sLn s' (c / 2)).isSome = true := by rw [he]; exact hs
      have ed : sCh s' c = dk := by rw [he, ch1_at]
      have ek : cKept (sCh s' c) = cKept (sCh s c) := by rw [ed]; exact hkept
      refine wp_iload d_Chn_sendAgainFrom_18 0 rfl ?_
      refine wp_aload_n d_Chn_sendAgainFrom_20 rfl 2 rfl ?_
      refine wn_get_Chn d_Chn_sendAgainFrom_21 ((hR'.ci c hc hs').1) 1 (by decide) wF_Chn_22 rfl ?_
      refine wp_toVR (o := some (Γ 10 c)) (z := .ref (Γ 10 c)) ((hR'.ci c hc hs').2.2.2.1) rfl ?_
      refine wn_get_Frs d_Chn_sendAgainFrom_24 ((rg_n ((hR'.ri c hc hs').2.2.2.2.1)).1) 2 (by decide) wF_Chn_91 rfl ?_
      refine wp_toI (z := (nI (cKept (sCh s' c)))) (kp_n (hR'.ri c hc hs').2.2.2.2.1) ?_
      refine wp_geN (tgt := 50) d_Chn_sendAgainFrom_27 (by decide) (by omega) (by omega) (fun c27 => ?_) (fun c27 => ?_)
      · exact wp_vret d_Chn_sendAgainFrom_50 rfl ⟨rfl, ρ', K', N', I', R', L', E', El', Er', rfl, by rw [show cKept (sCh s c) - k = 0 by omega] at htg; rw [he, show dk = _ from htg] at hR'; exact hR', hkp⟩
      · obtain ⟨a, ka, fa, hat⟩ := (hR'.ri c hc hs').2.2.2.2.1.at (G := G) (L := L') (E := E') (El := El') (kpF_at (d := sCh s' c) (k := k) (by omega))
        refine wp_aload_n d_Chn_sendAgainFrom_30 rfl 2 rfl ?_
        refine wp_aload_n d_Chn_sendAgainFrom_31 rfl 2 rfl ?_
        refine wn_get_Chn d_Chn_sendAgainFrom_32 ((hR'.ci c hc hs').1) 1 (by decide) wF_Chn_22 rfl ?_
        refine wp_toVR (o := some (Γ 10 c)) (z := .ref (Γ 10 c)) ((hR'.ci c hc hs').2.2.2.1) rfl ?_
        refine wp_iload d_Chn_sendAgainFrom_35 0 rfl ?_
        refine wp_callV (r := 1) d_Chn_sendAgainFrom_37 (link_V (as := [.int (nI k)]) (rest := [.ref (Γ 7 c)]) (r := (R_Frs, T_Frs, 3)) d_Chn_sendAgainFrom_37 cal_Frs_frameAt wM_Chn_94 rfl (hN_o ((rg_n ((hR'.ri c hc hs').2.2.2.2.1)).1) (by decide)) rfl) cal_Frs_frameAt (hat) (Nat.le_of_ble_eq_true rfl) ⟨Nat.le_of_ble_eq_true rfl, Nat.le_of_ble_eq_true rfl⟩ ?_
        refine wp_iload_n d_Chn_sendAgainFrom_40 rfl 4 rfl ?_
        refine wp_callEU (k' := 0) (n' := 0) (r := 0) d_Chn_sendAgainFrom_41 (link_V (as := [.ref a, .int (nI m)]) (rest := []) (r := (R_Chn, T_Chn, 7)) d_Chn_sendAgainFrom_41 cal_Chn_putMessage wM_Chn_78 rfl (hN_o ((hR'.ci c hc hs').1) (by decide)) rfl) cal_Chn_putMessage (c_Chn_putMessage hR' hc hs' ka fa) (Nat.le_of_ble_eq_true rfl) ⟨Nat.le_of_ble_eq_true rfl, Nat.le_of_ble_eq_true rfl⟩ (fun h' q41 => ?_)
        obtain ⟨ρ2, K2, N2, I2, R2, L2', E2, El2, Er2, rfl, hR2, hkp2⟩ := q41
        refine wp_iinc (lv' := [(4, .int (nI (k + 1))), (3, .int (nI (se - ((cSent (sCh s c)).length - cKept (sCh s c)) - 1))), (0, .ref (Γ 7 c)), (1, .int (nI se)), (2, .int (nI m))]) d_Chn_sendAgainFrom_44 0 rfl (nI_1 _) (by decide) rfl ?_
        refine wp_goto (tgt := 18) d_Chn_sendAgainFrom_47 (by decide) ?_
        exact ih (k + 1) (layKeptC dk k m) _ ρ2 K2 N2 I2 R2 L2' E2 El2 Er2 (by omega) (by omega) hR2 (hkp.tr hkp2) (by rw [he, ch1_at, ch1_ch1]; rfl) (by rw [layKept_pm]; unfold pmC layC; split <;> exact hsent) (by rw [layKept_pm]; unfold pmC layC; split <;> exact hkept) (by rw [← htg, show cKept (sCh s c) - k = (cKept (sCh s c) - (k + 1)) + 1 by omega]; rfl)
  refine wp_aload_n d_Chn_sendAgainFrom_0 rfl 0 rfl ?_
  refine wn_get_Chn d_Chn_sendAgainFrom_1 ((hR.ci c hc hs).1) 1 (by decide) wF_Chn_22 rfl ?_
  refine wp_toVR (o := some (Γ 10 c)) (z := .ref (Γ 10 c)) ((hR.ci c hc hs).2.2.2.1) rfl ?_
  refine wp_iload_n d_Chn_sendAgainFrom_4 rfl 1 rfl ?_
  refine wp_callV (r := 0) d_Chn_sendAgainFrom_5 (link_V (as := [.int (nI se)]) (rest := []) (r := (R_Frs, T_Frs, 3)) d_Chn_sendAgainFrom_5 cal_Frs_indexOf wM_Chn_85 rfl (hN_o ((rg_n ((hR.ri c hc hs).2.2.2.2.1)).1) (by decide)) rfl) cal_Frs_indexOf (c_Frs_indexOf hR hc hs hkb hsn hse) (Nat.le_of_ble_eq_true rfl) ⟨Nat.le_of_ble_eq_true rfl, Nat.le_of_ble_eq_true rfl⟩ ?_
  refine wp_toI (z := (nI (se - ((cSent (sCh s c)).length - cKept (sCh s c)) - 1))) (by rw [amI, if_pos hx]) ?_
  refine wp_istore_n (lv' := [(3, .int (nI (se - ((cSent (sCh s c)).length - cKept (sCh s c)) - 1))), (0, .ref (Γ 7 c)), (1, .int (nI se)), (2, .int (nI m))]) d_Chn_sendAgainFrom_8 rfl (by decide) rfl ?_
  refine wp_iload_n d_Chn_sendAgainFrom_9 rfl 0 rfl ?_
  refine wp_iconst (v := -1) d_Chn_sendAgainFrom_10 (by decide) ?_
  refine wp_icmp_ne (tgt := 15) d_Chn_sendAgainFrom_11 (by decide) (fun _ => ?_) (fun c => absurd c (nI_m1 (by omega)))
  refine wp_iload_n d_Chn_sendAgainFrom_15 rfl 0 rfl ?_
  refine wp_istore (lv' := [(4, .int (nI (se - ((cSent (sCh s c)).length - cKept (sCh s c)) - 1))), (3, .int (nI (se - ((cSent (sCh s c)).length - cKept (sCh s c)) - 1))), (0, .ref (Γ 7 c)), (1, .int (nI se)), (2, .int (nI m))]) d_Chn_sendAgainFrom_16 (by decide) rfl ?_
  exact L2 22 (se - ((cSent (sCh s c)).length - cKept (sCh s c)) - 1) (sCh s c) s ρ K N I R L E El Er (by omega) (by omega) hR Kp_0 (ch1_self s c).symm rfl rfl (by rw [show cKept (sCh s c) - (se - ((cSent (sCh s c)).length - cKept (sCh s c)) - 1) = (cSent (sCh s c)).length + 1 - se by omega])
set_option maxRecDepth 20000 in
theorem c_Chn_remind0 {G : Gt} {K N : Nat → Nat} {I : Nat → Nat → Int32} {R : Nat → Nat → Option Nat} {L : Nat → Nat → Int64} {E : Nat → Nat → Int32} {El : Nat → Nat → Int64} {Er : Nat → Nat → Option Nat} {Γ : Gm} {ρ : Nat → Nat} {s : Sa} (hR : RepN Γ ρ K N I R L E El Er s) {c : Nat} (hc : c < 16) (hs : (sLn s (c / 2)).isSome = true) {m : Nat} (hk0 : cKept (sCh s c) = 0) : CallR G m_Chn_remind 2 28 [.ref (Γ 7 c), .int (nI m)] (hN K N I R L E El Er) 0 0 (some (.int (nI 0))) (hN K N I R L E El Er) := by
  have hat := RgF.at0 (G := G) (L := L) (E := E) (El := El) (show RgF Γ K N I R Er (Γ 10 c) (Γ 11 c) 20 (cSent (sCh s c)) [] by have h9 := (hR.ri c hc hs).2.2.2.2.1; rw [show kpF (sCh s c) = [] by unfold kpF; rw [hk0]; rfl] at h9; exact h9)
  refine CallS.of (Nat.le_of_ble_eq_true rfl) ?_
  refine wp_aload_n d_Chn_remind_0 rfl 0 rfl ?_
  refine wn_get_Chn d_Chn_remind_1 ((hR.ci c hc hs).1) 1 (by decide) wF_Chn_22 rfl ?_
  refine wp_toVR (o := some (Γ 10 c)) (z := .ref (Γ 10 c)) ((hR.ci c hc hs).2.2.2.1) rfl ?_
  refine wp_iconst (v := nI 0) d_Chn_remind_4 (by decide) ?_
  refine wp_callV (r := 0) d_Chn_remind_5 (link_V (as := [.int (nI 0)]) (rest := []) (r := (R_Frs, T_Frs, 3)) d_Chn_remind_5 cal_Frs_frameAt wM_Chn_94 rfl (hN_o ((rg_n ((hR.ri c hc hs).2.2.2.2.1)).1) (by decide)) rfl) cal_Frs_frameAt (hat) (Nat.le_of_ble_eq_true rfl) ⟨Nat.le_of_ble_eq_true rfl, Nat.le_of_ble_eq_true rfl⟩ ?_
  refine wp_astore_nN (lv' := [(2, .null), (0, .ref (Γ 7 c)), (1, .int (nI m))]) d_Chn_remind_8 rfl (by decide) rfl ?_
  refine wp_aload_nN d_Chn_remind_9 rfl 0 rfl ?_
  refine wp_ifnullN (tgt := 23) d_Chn_remind_10 (by decide) ?_
  refine wp_iconst (v := nI 0) d_Chn_remind_23 (by decide) ?_
  exact wp_iret d_Chn_remind_24 rfl ⟨rfl, rfl⟩
set_option maxRecDepth 20000 in
theorem c_Chn_remind1 {G : Gt} {K N : Nat → Nat} {I : Nat → Nat → Int32} {R : Nat → Nat → Option Nat} {L : Nat → Nat → Int64} {E : Nat → Nat → Int32} {El : Nat → Nat → Int64} {Er : Nat → Nat → Option Nat} {Γ : Gm} {ρ : Nat → Nat} {s : Sa} (hR : RepN Γ ρ K N I R L E El Er s) {c : Nat} (hc : c < 16) (hs : (sLn s (c / 2)).isSome = true) {m : Nat} (hk0 : 0 < cKept (sCh s c)) (hm : m < 2 ^ 30) (hp : cPut (sCh s c) ≤ m) (hlt : m < cPut (sCh s c) + 5) : CallR G m_Chn_remind 2 28 [.ref (Γ 7 c), .int (nI m)] (hN K N I R L E El Er) 0 0 (some (.int (nI 0))) (hN K N I R L E El Er) := by
  obtain ⟨a, ka, fa, hat⟩ := ((hR.ri c hc hs).2.2.2.2.1).at (G := G) (L := L) (E := E) (El := El) (kpF_at (d := sCh s c) (k := 0) hk0)
  refine CallS.of (Nat.le_of_ble_eq_true rfl) ?_
  refine wp_aload_n d_Chn_remind_0 rfl 0 rfl ?_
  refine wn_get_Chn d_Chn_remind_1 ((hR.ci c hc hs).1) 1 (by decide) wF_Chn_22 rfl ?_
  refine wp_toVR (o := some (Γ 10 c)) (z := .ref (Γ 10 c)) ((hR.ci c hc hs).2.2.2.1) rfl ?_
  refine wp_iconst (v := nI 0) d_Chn_remind_4 (by decide) ?_
  refine wp_callV (r := 0) d_Chn_remind_5 (link_V (as := [.int (nI 0)]) (rest := []) (r := (R_Frs, T_Frs, 3)) d_Chn_remind_5 cal_Frs_frameAt wM_Chn_94 rfl (hN_o ((rg_n ((hR.ri c hc hs).2.2.2.2.1)).1) (by decide)) rfl) cal_Frs_frameAt (hat) (Nat.le_of_ble_eq_true rfl) ⟨Nat.le_of_ble_eq_true rfl, Nat.le_of_ble_eq_true rfl⟩ ?_
  refine wp_astore_n (lv' := [(2, .ref a), (0, .ref (Γ 7 c)), (1, .int (nI m))]) d_Chn_remind_8 rfl (by decide) rfl ?_
  refine wp_aload_n d_Chn_remind_9 rfl 0 rfl ?_
  refine wp_ifnull d_Chn_remind_10 ?_
  refine wp_iload_n d_Chn_remind_13 rfl 2 rfl ?_
  refine wp_aload_n d_Chn_remind_14 rfl 1 rfl ?_
  refine wn_get_Chn d_Chn_remind_15 ((hR.ci c hc hs).1) 5 (by decide) wF_Chn_82 rfl ?_
  refine wp_toI (z := (nI (cPut (sCh s c)))) ((hR.ci c hc hs).2.2.2.2.2.2.2.2.2.1) ?_
  refine wp_isubN d_Chn_remind_18 (by omega) ?_
  refine wp_iconst (v := nI 5) d_Chn_remind_19 (by decide) ?_
  refine wp_geN (tgt := 25) d_Chn_remind_20 (by decide) (by omega) (by omega) (fun c20 => ?_) (fun c20 => ?_)
  · exact absurd c20 (by omega)
  · refine wp_iconst (v := nI 0) d_Chn_remind_23 (by decide) ?_
    exact wp_iret d_Chn_remind_24 rfl ⟨rfl, rfl⟩
set_option maxRecDepth 20000 in
theorem c_Chn_remind2 {G : Gt} {K N : Nat → Nat} {I : Nat → Nat → Int32} {R : Nat → Nat → Option Nat} {L : Nat → Nat → Int64} {E : Nat → Nat → Int32} {El : Nat → Nat → Int64} {Er : Nat → Nat → Option Nat} {Γ : Gm} {ρ : Nat → Nat} {s : Sa} (hR : RepN Γ ρ K N I R L E El Er s) {c : Nat} (hc : c < 16) (hs : (sLn s (c / 2)).isSome = true) {m : Nat} (hk0 : 0 < cKept (sCh s c)) (hm : m < 2 ^ 30) (hp : cPut (sCh s c) ≤ m) (hlt : cPut (sCh s c) + 5 ≤ m) : CallE G m_Chn_remind 3 42 [.ref (Γ 7 c), .int (nI m)] (hN K N I R L E El Er) 0 0 (some (.int (nI 1))) (NetK Γ (ch1 s c (layKeptC (sCh s c) 0 m)) K I R) := by
  obtain ⟨a, ka, fa, hat⟩ := ((hR.ri c hc hs).2.2.2.2.1).at (G := G) (L := L) (E := E) (El := El) (kpF_at (d := sCh s c) (k := 0) hk0)
  refine CallS.of (Nat.le_of_ble_eq_true rfl) ?_
  refine wp_aload_n d_Chn_remind_0 rfl 0 rfl ?_
  refine wn_get_Chn d_Chn_remind_1 ((hR.ci c hc hs).1) 1 (by decide) wF_Chn_22 rfl ?_
  refine wp_toVR (o := some (Γ 10 c)) (z := .ref (Γ 10 c)) ((hR.ci c hc hs).2.2.2.1) rfl ?_
  refine wp_iconst (v := nI 0) d_Chn_remind_4 (by decide) ?_
  refine wp_callV (r := 0) d_Chn_remind_5 (link_V (as := [.int (nI 0)]) (rest := []) (r := (R_Frs, T_Frs, 3)) d_Chn_remind_5 cal_Frs_frameAt wM_Chn_94 rfl (hN_o ((rg_n ((hR.ri c hc hs).2.2.2.2.1)).1) (by decide)) rfl) cal_Frs_frameAt (hat) (Nat.le_of_ble_eq_true rfl) ⟨Nat.le_of_ble_eq_true rfl, Nat.le_of_ble_eq_true rfl⟩ ?_
  refine wp_astore_n (lv' := [(2, .ref a), (0, .ref (Γ 7 c)), (1, .int (nI m))]) d_Chn_remind_8 rfl (by decide) rfl ?_
  refine wp_aload_n d_Chn_remind_9 rfl 0 rfl ?_
  refine wp_ifnull d_Chn_remind_10 ?_
  refine wp_iload_n d_Chn_remind_13 rfl 2 rfl ?_
  refine wp_aload_n d_Chn_remind_14 rfl 1 rfl ?_
  refine wn_get_Chn d_Chn_remind_15 ((hR.ci c hc hs).1) 5 (by decide) wF_Chn_82 rfl ?_
  refine wp_toI (z := (nI (cPut (sCh s c)))) ((hR.ci c hc hs).2.2.2.2.2.2.2.2.2.1) ?_
  refine wp_isubN d_Chn_remind_18 (by omega) ?_
  refine wp_iconst (v := nI 5) d_Chn_remind_19 (by decide) ?_
  refine wp_geN (tgt := 25) d_Chn_remind_20 (by decide) (by omega) (by omega) (fun c20 => ?_) (fun c20 => ?_)
  · refine wp_aload_n d_Chn_remind_25 rfl 1 rfl ?_
    refine wp_aload_n d_Chn_remind_26 rfl 0 rfl ?_
    refine wp_iload_n d_Chn_remind_27 rfl 2 rfl ?_
    refine wp_callEU (k' := 0) (n' := 0) (r := 0) d_Chn_remind_28 (link_V (as := [.ref a, .int (nI m)]) (rest := []) (r := (R_Chn, T_Chn, 7)) d_Chn_remind_28 cal_Chn_putMessage wM_Chn_78 rfl (hN_o ((hR.ci c hc hs).1) (by decide)) rfl) cal_Chn_putMessage (c_Chn_putMessage hR hc hs ka fa) (Nat.le_of_ble_eq_true rfl) ⟨Nat.le_of_ble_eq_true rfl, Nat.le_of_ble_eq_true rfl⟩ (fun h' q28 => ?_)
    refine wp_iconst (v := nI 1) d_Chn_remind_31 (by decide) ?_
    exact wp_iret d_Chn_remind_32 rfl ⟨rfl, q28⟩
  · refine wp_iconst (v := nI 0) d_Chn_remind_23 (by decide) ?_
    exact absurd c20 (by omega)
/-- is the oldest kept frame of channel c due -/
def due1 (s : Sa) (c m : Nat) : Bool := !(cKept (sCh s c) == 0) && decide (cPut (sCh s c) + 5 ≤ m)
theorem c_Chn_remind {G : Gt} {K N : Nat → Nat} {I : Nat → Nat → Int32} {R : Nat → Nat → Option Nat} {L : Nat → Nat → Int64} {E : Nat → Nat → Int32} {El : Nat → Nat → Int64} {Er : Nat → Nat → Option Nat} {Γ : Gm} {ρ : Nat → Nat} {s : Sa} (hR : RepN Γ ρ K N I R L E El Er s) {c : Nat} (hc : c < 16) (hs : (sLn s (c / 2)).isSome = true) {m : Nat} (hm : m < 2 ^ 30) (hp : cPut (sCh s c) ≤ m) : CallE G m_Chn_remind 3 42 [.ref (Γ 7 c), .int (nI m)] (hN K N I R L E El Er) 0 0 (some (.int (nI (if due1 s c m then 1 else 0)))) (NetK Γ (if due1 s c m then ch1 s c (layKeptC (sCh s c) 0 m) else s) K I R) := by
  unfold due1
  rcases Nat.eq_zero_or_pos (cKept (sCh s c)) with h0 | h0
  · rw [h0]
    exact CallR.E (CallR.up (c_Chn_remind0 hR hc hs h0) (by decide) (by decide)) hR.k0
  · rw [show (cKept (sCh s c) == 0) = false from beq_eq_false_iff_ne.mpr (by omega)]
    rcases Nat.lt_or_ge m (cPut (sCh s c) + 5) with h1 | h1
    · rw [decide_eq_false (by omega)]
      exact CallR.E (CallR.up (c_Chn_remind1 hR hc hs h0 hm hp h1) (by decide) (by decide)) hR.k0
    · rw [decide_eq_true h1]
      exact CallE.up (c_Chn_remind2 hR hc hs h0 hm hp h1) (by decide) (by decide) (fun _ z => z)
set_option maxRecDepth 20000 in
theorem c_Net_disturbLX {G : Gt} {K N : Nat → Nat} {I : Nat → Nat → Int32} {R : Nat → Nat → Option Nat} {L : Nat → Nat → Int64} {E : Nat → Nat → Int32} {El : Nat → Nat → Int64} {Er : Nat → Nat → Option Nat} {Γ : Gm} {ρ : Nat → Nat} {s : Sa} (hR : RepN Γ ρ K N I R L E El Er s) {x c w : Int32} (hx : hasB (lnB s) x = false) : CallT G m_Net_disturb 7 95 [.ref (Γ 0 0), .int x, .int c, .int w] (hN K N I R L E El Er) 1 6 0 (fun h' => h' = (hN K N I R L E El Er)) := by
  refine CallS.of (Nat.le_of_ble_eq_true rfl) ?_
  refine wp_aload_n d_Net_disturb_0 rfl 0 rfl ?_
  refine wp_iload_n d_Net_disturb_1 rfl 1 rfl ?_
  exact wp_callT (k' := 1) (n' := 6) (r := 0) d_Net_disturb_2 (link_V (as := [.int x]) (rest := []) (r := (R_Net, T_Net, 7)) d_Net_disturb_2 cal_Net_lineAt wM_Net_127 rfl (hN_o (hR.nt.1) (by decide)) rfl) cal_Net_lineAt rfl (c_Net_lineAtX hR hx) (Nat.le_of_ble_eq_true rfl) ⟨Nat.le_of_ble_eq_true rfl, Nat.le_of_ble_eq_true rfl⟩ (fun h' q => ⟨rfl, q⟩)
set_option maxRecDepth 20000 in
theorem c_Net_disturbCX {G : Gt} {K N : Nat → Nat} {I : Nat → Nat → Int32} {R : Nat → Nat → Option Nat} {L : Nat → Nat → Int64} {E : Nat → Nat → Int32} {El : Nat → Nat → Int64} {Er : Nat → Nat → Option Nat} {Γ : Gm} {ρ : Nat → Nat} {s : Sa} (hR : RepN Γ ρ K N I R L E El Er s) {l a b : Nat} {v : Bool} (hl : l < 8) (hv : sLn s l = some (a, b, v)) {c w : Int32} (hx : inZ c (nI 0) (nI 1) = false) : CallT G m_Net_disturb 7 95 [.ref (Γ 0 0), .int (nI l), .int c, .int w] (hN K N I R L E El Er) 1 6 0 (fun h' => h' = (hN K N I R L E El Er)) := by
  refine CallS.of (Nat.le_of_ble_eq_true rfl) ?_
  refine wp_aload_n d_Net_disturb_0 rfl 0 rfl ?_
  refine wp_iload_n d_Net_disturb_1 rfl 1 rfl ?_
  refine wp_callV (r := 0) d_Net_disturb_2 (link_V (as := [.int (nI l)]) (rest := []) (r := (R_Net, T_Net, 7)) d_Net_disturb_2 cal_Net_lineAt wM_Net_127 rfl (hN_o (hR.nt.1) (by decide)) rfl) cal_Net_lineAt (c_Net_lineAt hR hl hv) (Nat.le_of_ble_eq_true rfl) ⟨Nat.le_of_ble_eq_true rfl, Nat.le_of_ble_eq_true rfl⟩ ?_
  refine wp_iload_n d_Net_disturb_5 rfl 2 rfl ?_
  exact wp_callT (k' := 1) (n' := 6) (r := 0) d_Net_disturb_6 (link_V (as := [.int c]) (rest := []) (r := (R_Lin, T_Lin, 5)) d_Net_disturb_6 cal_Lin_channelAt wM_Net_131 rfl (hN_o (((hR.li l hl).2 _ _ _ hv).2.1) (by decide)) rfl) cal_Lin_channelAt rfl (c_Lin_channelAtX hx) (Nat.le_of_ble_eq_true rfl) ⟨Nat.le_of_ble_eq_true rfl, Nat.le_of_ble_eq_true rfl⟩ (fun h' q => ⟨rfl, q⟩)
set_option maxRecDepth 20000 in
theorem c_Net_disturbWX {G : Gt} {K N : Nat → Nat} {I : Nat → Nat → Int32} {R : Nat → Nat → Option Nat} {L : Nat → Nat → Int64} {E : Nat → Nat → Int32} {El : Nat → Nat → Int64} {Er : Nat → Nat → Option Nat} {Γ : Gm} {ρ : Nat → Nat} {s : Sa} (hR : RepN Γ ρ K N I R L E El Er s) {l a b : Nat} {v : Bool} (hl : l < 8) (hv : sLn s l = some (a, b, v)) {c : Nat} (hc : c < 2) {w : Int32} (hw : inZ w (nI 0) (nI 1) = false) : CallT G m_Net_disturb 7 95 [.ref (Γ 0 0), .int (nI l), .int (nI c), .int w] (hN K N I R L E El Er) 1 6 0 (fun h' => h' = (hN K N I R L E El Er)) := by
  have hc16 : 2 * l + c < 16 := by omega
  have hs : (sLn s ((2 * l + c) / 2)).isSome = true := by rw [show (2 * l + c) / 2 = l by omega, hv]; rfl
  refine CallS.of (Nat.le_of_ble_eq_true rfl) ?_
  refine wp_aload_n d_Net_disturb_0 rfl 0 rfl ?_
  refine wp_iload_n d_Net_disturb_1 rfl 1 rfl ?_
  refine wp_callV (r := 0) d_Net_disturb_2 (link_V (as := [.int (nI l)]) (rest := []) (r := (R_Net, T_Net, 7)) d_Net_disturb_2 cal_Net_lineAt wM_Net_127 rfl (hN_o (hR.nt.1) (by decide)) rfl) cal_Net_lineAt (c_Net_lineAt hR hl hv) (Nat.le_of_ble_eq_true rfl) ⟨Nat.le_of_ble_eq_true rfl, Nat.le_of_ble_eq_true rfl⟩ ?_
  refine wp_iload_n d_Net_disturb_5 rfl 2 rfl ?_
  refine wp_callV (r := 0) d_Net_disturb_6 (link_V (as := [.int (nI c)]) (rest := []) (r := (R_Lin, T_Lin, 5)) d_Net_disturb_6 cal_Lin_channelAt wM_Net_131 rfl (hN_o (((hR.li l hl).2 _ _ _ hv).2.1) (by decide)) rfl) cal_Lin_channelAt (c_Lin_channelAt hR hl hv hc) (Nat.le_of_ble_eq_true rfl) ⟨Nat.le_of_ble_eq_true rfl, Nat.le_of_ble_eq_true rfl⟩ ?_
  refine wn_get_Chn d_Net_disturb_9 ((hR.ci (2 * l + c) hc16 hs).1) 2 (by decide) wF_Net_148 rfl ?_
  refine wp_toVR (o := some (Γ 12 (2 * l + c))) (z := .ref (Γ 12 (2 * l + c))) ((hR.ci (2 * l + c) hc16 hs).2.2.2.2.1) rfl ?_
  refine wp_astore (lv' := [(4, .ref (Γ 12 (2 * l + c))), (0, .ref (Γ 0 0)), (1, .int (nI l)), (2, .int (nI c)), (3, .int w)]) d_Net_disturb_12 (by decide) rfl ?_
  refine wp_iload_n d_Net_disturb_14 rfl 4 rfl ?_
  refine wp_if_eq (tgt := 33) d_Net_disturb_15 (by decide) (fun c15 => ?_) (fun c15 => ?_)
  · first | exact absurd hw (by rw [c15]; decide) | exact absurd hw (by rw [c20]; decide)
  · refine wp_iload_n d_Net_disturb_18 rfl 4 rfl ?_
    refine wp_iconst (v := nI 1) d_Net_disturb_19 (by decide) ?_
    refine wp_icmp_eq (tgt := 33) d_Net_disturb_20 (by decide) (fun c20 => ?_) (fun c20 => ?_)
    · first | exact absurd hw (by rw [c15]; decide) | exact absurd hw (by rw [c20]; decide)
    · exact wp_throwS (x := 0) d_Net_disturb_23 d_Net_disturb_26 d_Net_disturb_27 d_Net_disturb_29 d_Net_disturb_32 th_Net_47 wE_Net_43 wS_Net_181 rfl ⟨Nat.le_of_ble_eq_true rfl, Nat.le_of_ble_eq_true rfl⟩ ⟨rfl, rfl⟩
set_option maxRecDepth 20000 in
theorem c_Net_disturb00 {G : Gt} {K N : Nat → Nat} {I : Nat → Nat → Int32} {R : Nat → Nat → Option Nat} {L : Nat → Nat → Int64} {E : Nat → Nat → Int32} {El : Nat → Nat → Int64} {Er : Nat → Nat → Option Nat} {Γ : Gm} {ρ : Nat → Nat} {s : Sa} (hR : RepN Γ ρ K N I R L E El Er s) {l a b : Nat} {v : Bool} (hl : l < 8) (hv : sLn s l = some (a, b, v)) {c : Nat} (hc : c < 2) (hw : cWire (sCh s (2 * l + c)) = []) : CallR G m_Net_disturb 7 95 [.ref (Γ 0 0), .int (nI l), .int (nI c), .int (nI 0)] (hN K N I R L E El Er) 0 0 (some (.int (bI false))) (hN K N I R L E El Er) := by
  have hc16 : 2 * l + c < 16 := by omega
  have hs : (sLn s ((2 * l + c) / 2)).isSome = true := by rw [show (2 * l + c) / 2 = l by omega, hv]; rfl
  have hat := RgF.take0 (G := G) (L := L) (E := E) (El := El) (show RgF Γ K N I R Er (Γ 12 (2 * l + c)) (Γ 13 (2 * l + c)) 200 (cSent (sCh s (2 * l + c))) [] by rw [← hw]; exact (hR.ri (2 * l + c) hc16 hs).2.2.2.2.2)
  refine CallS.of (Nat.le_of_ble_eq_true rfl) ?_
  refine wp_aload_n d_Net_disturb_0 rfl 0 rfl ?_
  refine wp_iload_n d_Net_disturb_1 rfl 1 rfl ?_
  refine wp_callV (r := 0) d_Net_disturb_2 (link_V (as := [.int (nI l)]) (rest := []) (r := (R_Net, T_Net, 7)) d_Net_disturb_2 cal_Net_lineAt wM_Net_127 rfl (hN_o (hR.nt.1) (by decide)) rfl) cal_Net_lineAt (c_Net_lineAt hR hl hv) (Nat.le_of_ble_eq_true rfl) ⟨Nat.le_of_ble_eq_true rfl, Nat.le_of_ble_eq_true rfl⟩ ?_
  refine wp_iload_n d_Net_disturb_5 rfl 2 rfl ?_
  refine wp_callV (r := 0) d_Net_disturb_6 (link_V (as := [.int (nI c)]) (rest := []) (r := (R_Lin, T_Lin, 5)) d_Net_disturb_6 cal_Lin_channelAt wM_Net_131 rfl (hN_o (((hR.li l hl).2 _ _ _ hv).2.1) (by decide)) rfl) cal_Lin_channelAt (c_Lin_channelAt hR hl hv hc) (Nat.le_of_ble_eq_true rfl) ⟨Nat.le_of_ble_eq_true rfl, Nat.le_of_ble_eq_true rfl⟩ ?_
  refine wn_get_Chn d_Net_disturb_9 ((hR.ci (2 * l + c) hc16 hs).1) 2 (by decide) wF_Net_148 rfl ?_
  refine wp_toVR (o := some (Γ 12 (2 * l + c))) (z := .ref (Γ 12 (2 * l + c))) ((hR.ci (2 * l + c) hc16 hs).2.2.2.2.1) rfl ?_
  refine wp_astore (lv' := [(4, .ref (Γ 12 (2 * l + c))), (0, .ref (Γ 0 0)), (1, .int (nI l)), (2, .int (nI c)), (3, .int (nI 0))]) d_Net_disturb_12 (by decide) rfl ?_
  refine wp_iload_n d_Net_disturb_14 rfl 4 rfl ?_
  refine wp_if_eqN (tgt := 33) d_Net_disturb_15 (by decide) (by omega) (fun _ => ?_) (fun c => absurd c (by decide))
  refine wp_iload_n d_Net_disturb_33 rfl 4 rfl ?_
  refine wp_if_neN (tgt := 53) d_Net_disturb_34 (by decide) (by omega) (fun c => absurd c (by decide)) (fun _ => ?_)
  refine wp_aload d_Net_disturb_37 0 rfl ?_
  refine wp_callV (r := 0) d_Net_disturb_39 (link_V (as := []) (rest := []) (r := (R_Frs, T_Frs, 3)) d_Net_disturb_39 cal_Frs_takeFirst wM_Net_152 rfl (hN_o ((rg_n (hR.ri (2 * l + c) hc16 hs).2.2.2.2.2).1) (by decide)) rfl) cal_Frs_takeFirst (hat) (Nat.le_of_ble_eq_true rfl) ⟨Nat.le_of_ble_eq_true rfl, Nat.le_of_ble_eq_true rfl⟩ ?_
  refine wp_ifnullN (tgt := 49) d_Net_disturb_42 (by decide) ?_
  refine wp_iconst (v := nI 0) d_Net_disturb_49 (by decide) ?_
  refine wp_goto (tgt := 58) d_Net_disturb_50 (by decide) ?_
  exact wp_zret (ty := .boolean) d_Net_disturb_58 rfl rfl ⟨resI (bI_zero (rfl)), rfl⟩
set_option maxRecDepth 20000 in
theorem c_Net_disturb01 {G : Gt} {K N : Nat → Nat} {I : Nat → Nat → Int32} {R : Nat → Nat → Option Nat} {L : Nat → Nat → Int64} {E : Nat → Nat → Int32} {El : Nat → Nat → Int64} {Er : Nat → Nat → Option Nat} {Γ : Gm} {ρ : Nat → Nat} {s : Sa} (hR : RepN Γ ρ K N I R L E El Er s) {l a b : Nat} {v : Bool} (hl : l < 8) (hv : sLn s l = some (a, b, v)) {c : Nat} (hc : c < 2) {f : Nat × Nat} {ws : List (Nat × Nat)} (hw : cWire (sCh s (2 * l + c)) = f :: ws) : CallE G m_Net_disturb 7 95 [.ref (Γ 0 0), .int (nI l), .int (nI c), .int (nI 0)] (hN K N I R L E El Er) 0 0 (some (.int (nI 1))) (NetK Γ (ch1 s (2 * l + c) (wWire (sCh s (2 * l + c)) ws)) K I R) := by
  have hc16 : 2 * l + c < 16 := by omega
  have hs : (sLn s ((2 * l + c) / 2)).isSome = true := by rw [show (2 * l + c) / 2 = l by omega, hv]; rfl
  obtain ⟨a, ka, fa, hat⟩ := RgF.take (G := G) (L := L) (E := E) (El := El) (show RgF Γ K N I R Er (Γ 12 (2 * l + c)) (Γ 13 (2 * l + c)) 200 (cSent (sCh s (2 * l + c))) (f :: ws) by rw [← hw]; exact (hR.ri (2 * l + c) hc16 hs).2.2.2.2.2)
  refine CallS.of (Nat.le_of_ble_eq_true rfl) ?_
  refine wp_aload_n d_Net_disturb_0 rfl 0 rfl ?_
  refine wp_iload_n d_Net_disturb_1 rfl 1 rfl ?_
  refine wp_callV (r := 0) d_Net_disturb_2 (link_V (as := [.int (nI l)]) (rest := []) (r := (R_Net, T_Net, 7)) d_Net_disturb_2 cal_Net_lineAt wM_Net_127 rfl (hN_o (hR.nt.1) (by decide)) rfl) cal_Net_lineAt (c_Net_lineAt hR hl hv) (Nat.le_of_ble_eq_true rfl) ⟨Nat.le_of_ble_eq_true rfl, Nat.le_of_ble_eq_true rfl⟩ ?_
  refine wp_iload_n d_Net_disturb_5 rfl 2 rfl ?_
  refine wp_callV (r := 0) d_Net_disturb_6 (link_V (as := [.int (nI c)]) (rest := []) (r := (R_Lin, T_Lin, 5)) d_Net_disturb_6 cal_Lin_channelAt wM_Net_131 rfl (hN_o (((hR.li l hl).2 _ _ _ hv).2.1) (by decide)) rfl) cal_Lin_channelAt (c_Lin_channelAt hR hl hv hc) (Nat.le_of_ble_eq_true rfl) ⟨Nat.le_of_ble_eq_true rfl, Nat.le_of_ble_eq_true rfl⟩ ?_
  refine wn_get_Chn d_Net_disturb_9 ((hR.ci (2 * l + c) hc16 hs).1) 2 (by decide) wF_Net_148 rfl ?_
  refine wp_toVR (o := some (Γ 12 (2 * l + c))) (z := .ref (Γ 12 (2 * l + c))) ((hR.ci (2 * l + c) hc16 hs).2.2.2.2.1) rfl ?_
  refine wp_astore (lv' := [(4, .ref (Γ 12 (2 * l + c))), (0, .ref (Γ 0 0)), (1, .int (nI l)), (2, .int (nI c)), (3, .int (nI 0))]) d_Net_disturb_12 (by decide) rfl ?_
  refine wp_iload_n d_Net_disturb_14 rfl 4 rfl ?_
  refine wp_if_eqN (tgt := 33) d_Net_disturb_15 (by decide) (by omega) (fun _ => ?_) (fun c => absurd c (by decide))
  refine wp_iload_n d_Net_disturb_33 rfl 4 rfl ?_
  refine wp_if_neN (tgt := 53) d_Net_disturb_34 (by decide) (by omega) (fun c => absurd c (by decide)) (fun _ => ?_)
  refine wp_aload d_Net_disturb_37 0 rfl ?_
  refine wp_callEV (k' := 0) (n' := 0) (r := 0) d_Net_disturb_39 (link_V (as := []) (rest := []) (r := (R_Frs, T_Frs, 3)) d_Net_disturb_39 cal_Frs_takeFirst wM_Net_152 rfl (hN_o ((rg_n (hR.ri (2 * l + c) hc16 hs).2.2.2.2.2).1) (by decide)) rfl) cal_Frs_takeFirst (hat) (Nat.le_of_ble_eq_true rfl) ⟨Nat.le_of_ble_eq_true rfl, Nat.le_of_ble_eq_true rfl⟩ (fun h' q39 => ?_)
  obtain ⟨I2, rfl, h1, h2⟩ := q39
  refine wp_ifnull d_Net_disturb_42 ?_
  refine wp_iconst (v := nI 1) d_Net_disturb_45 (by decide) ?_
  refine wp_goto (tgt := 58) d_Net_disturb_46 (by decide) ?_
  exact wp_zret (ty := .boolean) d_Net_disturb_58 rfl rfl ⟨rfl, _, _, _, _, _, _, _, _, _, rfl, hR.wire hc16 hs h1 fE_refl h2, Kp_f h1⟩
set_option maxRecDepth 20000 in
theorem c_Net_disturb10 {G : Gt} {K N : Nat → Nat} {I : Nat → Nat → Int32} {R : Nat → Nat → Option Nat} {L : Nat → Nat → Int64} {E : Nat → Nat → Int32} {El : Nat → Nat → Int64} {Er : Nat → Nat → Option Nat} {Γ : Gm} {ρ : Nat → Nat} {s : Sa} (hR : RepN Γ ρ K N I R L E El Er s) {l a b : Nat} {v : Bool} (hl : l < 8) (hv : sLn s l = some (a, b, v)) {c : Nat} (hc : c < 2) (hw : cWire (sCh s (2 * l + c)) = [] ∨ (cWire (sCh s (2 * l + c))).length = 200) : CallR G m_Net_disturb 7 95 [.ref (Γ 0 0), .int (nI l), .int (nI c), .int (nI 1)] (hN K N I R L E El Er) 0 0 (some (.int (bI false))) (hN K N I R L E El Er) := by
  have hc16 : 2 * l + c < 16 := by omega
  have hs : (sLn s ((2 * l + c) / 2)).isSome = true := by rw [show (2 * l + c) / 2 = l by omega, hv]; rfl
  refine CallS.of (Nat.le_of_ble_eq_true rfl) ?_
  refine wp_aload_n d_Net_disturb_0 rfl 0 rfl ?_
  refine wp_iload_n d_Net_disturb_1 rfl 1 rfl ?_
  refine wp_callV (r := 0) d_Net_disturb_2 (link_V (as := [.int (nI l)]) (rest := []) (r := (R_Net, T_Net, 7)) d_Net_disturb_2 cal_Net_lineAt wM_Net_127 rfl (hN_o (hR.nt.1) (by decide)) rfl) cal_Net_lineAt (c_Net_lineAt hR hl hv) (Nat.le_of_ble_eq_true rfl) ⟨Nat.le_of_ble_eq_true rfl, Nat.le_of_ble_eq_true rfl⟩ ?_
  refine wp_iload_n d_Net_disturb_5 rfl 2 rfl ?_
  refine wp_callV (r := 0) d_Net_disturb_6 (link_V (as := [.int (nI c)]) (rest := []) (r := (R_Lin, T_Lin, 5)) d_Net_disturb_6 cal_Lin_channelAt wM_Net_131 rfl (hN_o (((hR.li l hl).2 _ _ _ hv).2.1) (by decide)) rfl) cal_Lin_channelAt (c_Lin_channelAt hR hl hv hc) (Nat.le_of_ble_eq_true rfl) ⟨Nat.le_of_ble_eq_true rfl, Nat.le_of_ble_eq_true rfl⟩ ?_
  refine wn_get_Chn d_Net_disturb_9 ((hR.ci (2 * l + c) hc16 hs).1) 2 (by decide) wF_Net_148 rfl ?_
  refine wp_toVR (o := some (Γ 12 (2 * l + c))) (z := .ref (Γ 12 (2 * l + c))) ((hR.ci (2 * l + c) hc16 hs).2.2.2.2.1) rfl ?_
  refine wp_astore (lv' := [(4, .ref (Γ 12 (2 * l + c))), (0, .ref (Γ 0 0)), (1, .int (nI l)), (2, .int (nI c)), (3, .int (nI 1))]) d_Net_disturb_12 (by decide) rfl ?_
  refine wp_iload_n d_Net_disturb_14 rfl 4 rfl ?_
  refine wp_if_eqN (tgt := 33) d_Net_disturb_15 (by decide) (by omega) (fun c => absurd c (by decide)) (fun _ => ?_)
  refine wp_iload_n d_Net_disturb_18 rfl 4 rfl ?_
  refine wp_iconst (v := nI 1) d_Net_disturb_19 (by decide) ?_
  refine wp_eqN (tgt := 33) d_Net_disturb_20 (by decide) (by omega) (by omega) (fun _ => ?_) (fun c => absurd c (by decide))
  refine wp_iload_n d_Net_disturb_33 rfl 4 rfl ?_
  refine wp_if_neN (tgt := 53) d_Net_disturb_34 (by decide) (by omega) (fun _ => ?_) (fun c => absurd c (by decide))
  refine wp_aload d_Net_disturb_53 0 rfl ?_
  refine wp_callV (r := 0) d_Net_disturb_55 (link_V (as := []) (rest := []) (r := (R_Frs, T_Frs, 3)) d_Net_disturb_55 cal_Frs_doubleFirst wM_Net_183 rfl (hN_o ((rg_n (hR.ri (2 * l + c) hc16 hs).2.2.2.2.2).1) (by decide)) rfl) cal_Frs_doubleFirst (((hR.ri (2 * l + c) hc16 hs).2.2.2.2.2).dbl0 hw) (Nat.le_of_ble_eq_true rfl) ⟨Nat.le_of_ble_eq_true rfl, Nat.le_of_ble_eq_true rfl⟩ ?_
  exact wp_zret (ty := .boolean) d_Net_disturb_58 rfl (narB' _) ⟨rfl, rfl⟩
set_option maxRecDepth 20000 in
theorem c_Net_disturb11 {G : Gt} {K N : Nat → Nat} {I : Nat → Nat → Int32} {R : Nat → Nat → Option Nat} {L : Nat → Nat → Int64} {E : Nat → Nat → Int32} {El : Nat → Nat → Int64} {Er : Nat → Nat → Option Nat} {Γ : Gm} {ρ : Nat → Nat} {s : Sa} (hR : RepN Γ ρ K N I R L E El Er s) {l a b : Nat} {v : Bool} (hl : l < 8) (hv : sLn s l = some (a, b, v)) {c : Nat} (hc : c < 2) {f : Nat × Nat} {ws : List (Nat × Nat)} (hw : cWire (sCh s (2 * l + c)) = f :: ws) (hlt : ws.length + 1 < 200) : CallE G m_Net_disturb 7 95 [.ref (Γ 0 0), .int (nI l), .int (nI c), .int (nI 1)] (hN K N I R L E El Er) 0 0 (some (.int (bI true))) (NetK Γ (ch1 s (2 * l + c) (wWire (sCh s (2 * l + c)) (f :: f :: ws))) K I R) := by
  have hc16 : 2 * l + c < 16 := by omega
  have hs : (sLn s ((2 * l + c) / 2)).isSome = true := by rw [show (2 * l + c) / 2 = l by omega, hv]; rfl
  refine CallS.of (Nat.le_of_ble_eq_true rfl) ?_
  refine wp_aload_n d_Net_disturb_0 rfl 0 rfl ?_
  refine wp_iload_n d_Net_disturb_1 rfl 1 rfl ?_
  refine wp_callV (r := 0) d_Net_disturb_2 (link_V (as := [.int (nI l)]) (rest := []) (r := (R_Net, T_Net, 7)) d_Net_disturb_2 cal_Net_lineAt wM_Net_127 rfl (hN_o (hR.nt.1) (by decide)) rfl) cal_Net_lineAt (c_Net_lineAt hR hl hv) (Nat.le_of_ble_eq_true rfl) ⟨Nat.le_of_ble_eq_true rfl, Nat.le_of_ble_eq_true rfl⟩ ?_
  refine wp_iload_n d_Net_disturb_5 rfl 2 rfl ?_
  refine wp_callV (r := 0) d_Net_disturb_6 (link_V (as := [.int (nI c)]) (rest := []) (r := (R_Lin, T_Lin, 5)) d_Net_disturb_6 cal_Lin_channelAt wM_Net_131 rfl (hN_o (((hR.li l hl).2 _ _ _ hv).2.1) (by decide)) rfl) cal_Lin_channelAt (c_Lin_channelAt hR hl hv hc) (Nat.le_of_ble_eq_true rfl) ⟨Nat.le_of_ble_eq_true rfl, Nat.le_of_ble_eq_true rfl⟩ ?_
  refine wn_get_Chn d_Net_disturb_9 ((hR.ci (2 * l + c) hc16 hs).1) 2 (by decide) wF_Net_148 rfl ?_
  refine wp_toVR (o := some (Γ 12 (2 * l + c))) (z := .ref (Γ 12 (2 * l + c))) ((hR.ci (2 * l + c) hc16 hs).2.2.2.2.1) rfl ?_
  refine wp_astore (lv' := [(4, .ref (Γ 12 (2 * l + c))), (0, .ref (Γ 0 0)), (1, .int (nI l)), (2, .int (nI c)), (3, .int (nI 1))]) d_Net_disturb_12 (by decide) rfl ?_
  refine wp_iload_n d_Net_disturb_14 rfl 4 rfl ?_
  refine wp_if_eqN (tgt := 33) d_Net_disturb_15 (by decide) (by omega) (fun c => absurd c (by decide)) (fun _ => ?_)
  refine wp_iload_n d_Net_disturb_18 rfl 4 rfl ?_
  refine wp_iconst (v := nI 1) d_Net_disturb_19 (by decide) ?_
  refine wp_eqN (tgt := 33) d_Net_disturb_20 (by decide) (by omega) (by omega) (fun _ => ?_) (fun c => absurd c (by decide))
  refine wp_iload_n d_Net_disturb_33 rfl 4 rfl ?_
  refine wp_if_neN (tgt := 53) d_Net_disturb_34 (by decide) (by omega) (fun _ => ?_) (fun c => absurd c (by decide))
  refine wp_aload d_Net_disturb_53 0 rfl ?_
  refine wp_callEV (k' := 0) (n' := 0) (r := 0) d_Net_disturb_55 (link_V (as := []) (rest := []) (r := (R_Frs, T_Frs, 3)) d_Net_disturb_55 cal_Frs_doubleFirst wM_Net_183 rfl (hN_o ((rg_n (hR.ri (2 * l + c) hc16 hs).2.2.2.2.2).1) (by decide)) rfl) cal_Frs_doubleFirst (RgF.dbl (show RgF Γ K N I R Er (Γ 12 (2 * l + c)) (Γ 13 (2 * l + c)) 200 (cSent (sCh s (2 * l + c))) (f :: ws) by rw [← hw]; exact (hR.ri (2 * l + c) hc16 hs).2.2.2.2.2) hlt) (Nat.le_of_ble_eq_true rfl) ⟨Nat.le_of_ble_eq_true rfl, Nat.le_of_ble_eq_true rfl⟩ (fun h' q55 => ?_)
  obtain ⟨I2, Er2, rfl, h1, h2, h3⟩ := q55
  exact wp_zret (ty := .boolean) d_Net_disturb_58 rfl rfl ⟨rfl, _, _, _, _, _, _, _, _, _, rfl, hR.wire hc16 hs h1 h2 h3, Kp_f h1⟩
theorem n_Net_disturb {G : Gt} {K N : Nat → Nat} {I : Nat → Nat → Int32} {R : Nat → Nat → Option Nat} {L : Nat → Nat → Int64} {E : Nat → Nat → Int32} {El : Nat → Nat → Int64} {Er : Nat → Nat → Option Nat} {Γ : Gm} {ρ : Nat → Nat} {s : Sa} (hR : RepN Γ ρ K N I R L E El Er s) {n0 : Nat} (hV : Inv n0 s) (l c w : Int32) : CallN G m_Net_disturb 7 95 [.ref (Γ 0 0), .int l, .int c, .int w] (hN K N I R L E El Er) 1 6 (stDisturb s l c w) false (Γ 0 0) := by
  unfold stDisturb chOK
  cases hx : hasB (lnB s) l with
  | false => exact CallN.ofT (c_Net_disturbLX hR hx) (by decide) (by decide) (by decide) (by decide) rfl hR.okT
  | true =>
    obtain ⟨j, a, b, v, hl, rfl, hv⟩ := hasB_o hx
    cases hy : inZ c (nI 0) (nI 1) with
    | false => exact CallN.ofT (c_Net_disturbCX hR hl hv hy) (by decide) (by decide) (by decide) (by decide) rfl hR.okT
    | true =>
      obtain ⟨i, hi, rfl⟩ := inZ_of (by decide) hy
      have hc : i < 2 := by omega
      cases hz : inZ w (nI 0) (nI 1) with
      | false => exact CallN.ofT (c_Net_disturbWX hR hl hv hc hz) (by decide) (by decide) (by decide) (by decide) rfl hR.okT
      | true =>
        obtain ⟨p, hp, rfl⟩ := inZ_of (by decide) hz
        rw [Bool.and_self, Bool.and_self, if_pos rfl, nN_nI (by omega), nN_nI (by omega)]
        have hlen := (chB hV (2 * j + i)).2
        rcases (show p = 0 ∨ p = 1 by omega) with rfl | rfl
        · cases hw : cWire (sCh s (2 * j + i)) with
          | nil => exact CallN.ofR (c_Net_disturb00 hR hl hv hc hw) (by decide) (by decide) (by decide) (by decide) rfl hR.ok
          | cons f ws => exact CallN.ofE (c_Net_disturb01 hR hl hv hc hw) (by decide) (by decide) (by decide) (by decide) rfl (fun _ z => z.to)
        · cases hw : cWire (sCh s (2 * j + i)) with
          | nil => exact CallN.ofR (c_Net_disturb10 hR hl hv hc (Or.inl hw)) (by decide) (by decide) (by decide) (by decide) rfl hR.ok
          | cons f ws =>
            have h10 : ¬ nI 1 = 0 := by decide
            dsimp only
            rw [if_neg h10]
            rw [hw, List.length_cons] at hlen
            by_cases h9 : ws.length = 199
            · rw [if_pos h9]
              exact CallN.ofR (c_Net_disturb10 hR hl hv hc (Or.inr (by rw [hw, List.length_cons]; omega))) (by decide) (by decide) (by decide) (by decide) rfl hR.ok
            · rw [if_neg h9]
              exact CallN.ofE (c_Net_disturb11 hR hl hv hc hw (by omega)) (by decide) (by decide) (by decide) (by decide) rfl (fun _ z => z.to)
end Cls16
