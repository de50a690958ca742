section Cls24
set_option maxRecDepth 20000 in
theorem c_Net_meet3 {G : Gt} {K N : Nat → Nat} {I : Nat → Nat → Int32} {R : Nat → Nat → Option Nat} {L : Nat → Nat → Int64} {E : Nat → Nat → Int32} {El : Nat → Nat → Int64} {Er : Nat → Nat → Option Nat} {Γ : Gm} {ρ : Nat → Nat} {s : Sa} (hR : RepN Γ ρ K N I R L E El Er s) {Γ : Gm} {ρ : Nat → Nat} {s : Sa} (hR : RepN Γ ρ K N I R L E El Er s) {l a b : Nat} (hl : l < 8) (hv : sLn s l = some (a, b, true)) {c : Nat} (hc : c < 2) {fa qa se j set : Nat} (kfa : K fa = 6 + 1) (f32 : I 32 fa = nI se) (f33 : R 33 fa = some qa) (kqa : K qa = 2 + 1) (q14 : R 14 qa = some (Γ 14 (j + 1))) (q15 : I 15 qa = nI set) (hse : 1 ≤ se ∧ se ≤ 999) (hex : 1 ≤ cExp (sCh s (2 * l + c)) ∧ cExp (sCh s (2 * l + c)) ≤ 999) (ha : 400 < (se + 999 - cExp (sCh s (2 * l + c))) % 999) : CallE G m_Net_meet 7 95 [.ref (Γ 0 0), .ref fa, .int (nI l), .int (nI c)] (hN K N I R L E El Er) 1 3 (some (.int (nI 3))) (NetK Γ (ch1 s (2 * l + (1 - c)) (layC (sCh s (2 * l + (1 - c))) (1, (cExp (sCh s (2 * l + c)) + 997) % 999 + 1))) K I R) := by
  have hj16 : 2 * l + c < 16 := by omega
  have hjs : (sLn s ((2 * l + c) / 2)).isSome = true := by rw [show (2 * l + c) / 2 = l by omega, hv]; rfl
  have hk16 : 2 * l + (1 - c) < 16 := by omega
  have hks : (sLn s ((2 * l + (1 - c)) / 2)).isSome = true := by rw [show (2 * l + (1 - c)) / 2 = l by omega, hv]; rfl
  have hot : otC (2 * l + (1 - c)) = 2 * l + c := by unfold otC; omega
  refine CallS.of (Nat.le_of_ble_eq_true rfl) ?_
  refine wp_aload_n d_Net_meet_0 rfl 0 rfl ?_
  refine wp_iload_n d_Net_meet_1 rfl 2 rfl ?_
  refine wp_callV (r := 0) d_Net_meet_2 (link_V (as := [.int (nI l)]) (rest := []) (r := (R_Net, T_Net, 7)) d_Net_meet_2 cal_Net_lineAt wM_Net_127 rfl (hN_o (hR.nt.1) (by decide)) rfl) cal_Net_lineAt (c_Net_lineAt hR hl hv) (Nat.le_of_ble_eq_true rfl) ⟨Nat.le_of_ble_eq_true rfl, Nat.le_of_ble_eq_true rfl⟩ ?_
  refine wp_astore (lv' := [(4, .ref (Γ 6 l)), (0, .ref (Γ 0 0)), (1, .ref fa), (2, .int (nI l)), (3, .int (nI c))]) d_Net_meet_5 (by decide) rfl ?_
  refine wp_aload d_Net_meet_7 0 rfl ?_
  refine wp_iload_n d_Net_meet_9 rfl 4 rfl ?_
  refine wp_callV (r := 0) d_Net_meet_10 (link_V (as := [.int (nI c)]) (rest := []) (r := (R_Lin, T_Lin, 5)) d_Net_meet_10 cal_Lin_channelAt wM_Net_131 rfl (hN_o (((hR.li l hl).2 _ _ _ hv).2.1) (by decide)) rfl) cal_Lin_channelAt (c_Lin_channelAt hR hl hv (by omega)) (Nat.le_of_ble_eq_true rfl) ⟨Nat.le_of_ble_eq_true rfl, Nat.le_of_ble_eq_true rfl⟩ ?_
  refine wp_astore (lv' := [(5, .ref (Γ 7 (2 * l + c))), (4, .ref (Γ 6 l)), (0, .ref (Γ 0 0)), (1, .ref fa), (2, .int (nI l)), (3, .int (nI c))]) d_Net_meet_13 (by decide) rfl ?_
  refine wp_aload d_Net_meet_15 1 rfl ?_
  refine wp_iconst (v := nI 1) d_Net_meet_17 (by decide) ?_
  refine wp_iload_n d_Net_meet_18 rfl 5 rfl ?_
  refine wp_isubN d_Net_meet_19 (by omega) ?_
  refine wp_callV (r := 0) d_Net_meet_20 (link_V (as := [.int (nI (1 - c))]) (rest := []) (r := (R_Lin, T_Lin, 5)) d_Net_meet_20 cal_Lin_channelAt wM_Net_131 rfl (hN_o (((hR.li l hl).2 _ _ _ hv).2.1) (by decide)) rfl) cal_Lin_channelAt (c_Lin_channelAt hR hl hv (by omega)) (Nat.le_of_ble_eq_true rfl) ⟨Nat.le_of_ble_eq_true rfl, Nat.le_of_ble_eq_true rfl⟩ ?_
  refine wp_astore (lv' := [(6, .ref (Γ 7 (2 * l + (1 - c)))), (5, .ref (Γ 7 (2 * l + c))), (4, .ref (Γ 6 l)), (0, .ref (Γ 0 0)), (1, .ref fa), (2, .int (nI l)), (3, .int (nI c))]) d_Net_meet_23 (by decide) rfl ?_
  refine wp_aload_n d_Net_meet_25 rfl 4 rfl ?_
  refine wn_get_Frm d_Net_meet_26 (kfa) 0 (by decide) wF_Net_171 rfl ?_
  refine wp_toI (z := (nI se)) (f32) ?_
  refine wp_aload d_Net_meet_29 1 rfl ?_
  refine wn_get_Chn d_Net_meet_31 ((hR.ci (2 * l + c) hj16 hjs).1) 4 (by decide) wF_Net_248 rfl ?_
  refine wp_toI (z := (nI (cExp (sCh s (2 * l + c))))) ((hR.ci (2 * l + c) hj16 hjs).2.2.2.2.2.2.2.2.1) ?_
  refine wp_isub d_Net_meet_34 ?_
  refine wp_sipush (v := nI 999) d_Net_meet_35 (by decide) ?_
  refine wp_callVF (r := 0) d_Net_meet_38 (link_SF (av := [.int ((nI se) - (nI (cExp (sCh s (2 * l + c))))), .int (nI 999)]) (rest := []) d_Net_meet_38 cal_Math_floorMod wM_Net_280 rfl) cal_Math_floorMod (c_Math_floorMod hse hex) (Nat.le_of_ble_eq_true rfl) ⟨Nat.le_of_ble_eq_true rfl, Nat.le_of_ble_eq_true rfl⟩ ?_
  refine wp_istore (lv' := [(7, .int (nI ((se + 999 - cExp (sCh s (2 * l + c))) % 999))), (6, .ref (Γ 7 (2 * l + (1 - c)))), (5, .ref (Γ 7 (2 * l + c))), (4, .ref (Γ 6 l)), (0, .ref (Γ 0 0)), (1, .ref fa), (2, .int (nI l)), (3, .int (nI c))]) d_Net_meet_41 (by decide) rfl ?_
  refine wp_iload d_Net_meet_43 0 rfl ?_
  refine wp_if_neN (tgt := 111) d_Net_meet_45 (by decide) (by omega) (fun c45 => ?_) (fun c45 => ?_)
  · refine wp_iload d_Net_meet_111 0 rfl ?_
    refine wp_sipush (v := nI 400) d_Net_meet_113 (by decide) ?_
    refine wp_gtN (tgt := 135) d_Net_meet_116 (by decide) (by omega) (by omega) (fun c116 => ?_) (fun c116 => ?_)
    · refine wp_aload d_Net_meet_135 1 rfl ?_
      refine wp_aload d_Net_meet_137 2 rfl ?_
      refine wn_get_Chn d_Net_meet_139 ((hR.ci (2 * l + c) hj16 hjs).1) 4 (by decide) wF_Net_248 rfl ?_
      refine wp_toI (z := (nI (cExp (sCh s (2 * l + c))))) ((hR.ci (2 * l + c) hj16 hjs).2.2.2.2.2.2.2.2.1) ?_
      refine wp_callV (r := 1) d_Net_meet_142 (link_S (av := [.int (nI (cExp (sCh s (2 * l + c))))]) (rest := [.ref (Γ 7 (2 * l + (1 - c)))]) d_Net_meet_142 cal_Net_serialAhead wM_Net_303 rfl) cal_Net_serialAhead (c_Net_serialAhead (x := cExp (sCh s (2 * l + c))) (by omega)) (Nat.le_of_ble_eq_true rfl) ⟨Nat.le_of_ble_eq_true rfl, Nat.le_of_ble_eq_true rfl⟩ ?_
      refine wp_callEU (k' := 1) (n' := 3) (r := 0) d_Net_meet_145 (link_V (as := [.int (nI ((cExp (sCh s (2 * l + c)) + 997) % 999 + 1))]) (rest := []) (r := (R_Chn, T_Chn, 7)) d_Net_meet_145 cal_Chn_putAcknowledgement wM_Net_289 rfl (hN_o ((hR.ci (2 * l + (1 - c)) hk16 hks).1) (by decide)) rfl) cal_Chn_putAcknowledgement (c_Chn_putAcknowledgement hR hk16 hks) (Nat.le_of_ble_eq_true rfl) ⟨Nat.le_of_ble_eq_true rfl, Nat.le_of_ble_eq_true rfl⟩ (fun h' q145 => ?_)
      refine wp_iconst (v := nI 3) d_Net_meet_148 (by decide) ?_
      exact wp_iret d_Net_meet_149 rfl ⟨rfl, q145⟩
    · omega
  · omega
set_option maxRecDepth 20000 in
theorem c_Net_meet20 {G : Gt} {K N : Nat → Nat} {I : Nat → Nat → Int32} {R : Nat → Nat → Option Nat} {L : Nat → Nat → Int64} {E : Nat → Nat → Int32} {El : Nat → Nat → Int64} {Er : Nat → Nat → Option Nat} {Γ : Gm} {ρ : Nat → Nat} {s : Sa} (hR : RepN Γ ρ K N I R L E El Er s) {Γ : Gm} {ρ : Nat → Nat} {s : Sa} (hR : RepN Γ ρ K N I R L E El Er s) {l a b : Nat} (hl : l < 8) (hv : sLn s l = some (a, b, true)) {c : Nat} (hc : c < 2) {fa qa se j set : Nat} (kfa : K fa = 6 + 1) (f32 : I 32 fa = nI se) (f33 : R 33 fa = some qa) (kqa : K qa = 2 + 1) (q14 : R 14 qa = some (Γ 14 (j + 1))) (q15 : I 15 qa = nI set) (hse : 1 ≤ se ∧ se ≤ 999) (hex : 1 ≤ cExp (sCh s (2 * l + c)) ∧ cExp (sCh s (2 * l + c)) ≤ 999) {t : Nat} (ht : cAsk (sCh s (2 * l + c)) = some t) (htm : t ≤ sMin s) (hlt : sMin s < t + 3) (hm30 : sMin s < 2 ^ 30) (ha : (se + 999 - cExp (sCh s (2 * l + c))) % 999 ≤ 400) (ha0 : 0 < (se + 999 - cExp (sCh s (2 * l + c))) % 999) : CallE G m_Net_meet 7 95 [.ref (Γ 0 0), .ref fa, .int (nI l), .int (nI c)] (hN K N I R L E El Er) 1 3 (some (.int (nI 2))) (NetK Γ (s) K I R) := by
  have hj16 : 2 * l + c < 16 := by omega
  have hjs : (sLn s ((2 * l + c) / 2)).isSome = true := by rw [show (2 * l + c) / 2 = l by omega, hv]; rfl
  have hk16 : 2 * l + (1 - c) < 16 := by omega
  have hks : (sLn s ((2 * l + (1 - c)) / 2)).isSome = true := by rw [show (2 * l + (1 - c)) / 2 = l by omega, hv]; rfl
  have hot : otC (2 * l + (1 - c)) = 2 * l + c := by unfold otC; omega
  refine CallS.of (Nat.le_of_ble_eq_true rfl) ?_
  refine wp_aload_n d_Net_meet_0 rfl 0 rfl ?_
  refine wp_iload_n d_Net_meet_1 rfl 2 rfl ?_
  refine wp_callV (r := 0) d_Net_meet_2 (link_V (as := [.int (nI l)]) (rest := []) (r := (R_Net, T_Net, 7)) d_Net_meet_2 cal_Net_lineAt wM_Net_127 rfl (hN_o (hR.nt.1) (by decide)) rfl) cal_Net_lineAt (c_Net_lineAt hR hl hv) (Nat.le_of_ble_eq_true rfl) ⟨Nat.le_of_ble_eq_true rfl, Nat.le_of_ble_eq_true rfl⟩ ?_
  refine wp_astore (lv' := [(4, .ref (Γ 6 l)), (0, .ref (Γ 0 0)), (1, .ref fa), (2, .int (nI l)), (3, .int (nI c))]) d_Net_meet_5 (by decide) rfl ?_
  refine wp_aload d_Net_meet_7 0 rfl ?_
  refine wp_iload_n d_Net_meet_9 rfl 4 rfl ?_
  refine wp_callV (r := 0) d_Net_meet_10 (link_V (as := [.int (nI c)]) (rest := []) (r := (R_Lin, T_Lin, 5)) d_Net_meet_10 cal_Lin_channelAt wM_Net_131 rfl (hN_o (((hR.li l hl).2 _ _ _ hv).2.1) (by decide)) rfl) cal_Lin_channelAt (c_Lin_channelAt hR hl hv (by omega)) (Nat.le_of_ble_eq_true rfl) ⟨Nat.le_of_ble_eq_true rfl, Nat.le_of_ble_eq_true rfl⟩ ?_
  refine wp_astore (lv' := [(5, .ref (Γ 7 (2 * l + c))), (4, .ref (Γ 6 l)), (0, .ref (Γ 0 0)), (1, .ref fa), (2, .int (nI l)), (3, .int (nI c))]) d_Net_meet_13 (by decide) rfl ?_
  refine wp_aload d_Net_meet_15 1 rfl ?_
  refine wp_iconst (v := nI 1) d_Net_meet_17 (by decide) ?_
  refine wp_iload_n d_Net_meet_18 rfl 5 rfl ?_
  refine wp_isubN d_Net_meet_19 (by omega) ?_
  refine wp_callV (r := 0) d_Net_meet_20 (link_V (as := [.int (nI (1 - c))]) (rest := []) (r := (R_Lin, T_Lin, 5)) d_Net_meet_20 cal_Lin_channelAt wM_Net_131 rfl (hN_o (((hR.li l hl).2 _ _ _ hv).2.1) (by decide)) rfl) cal_Lin_channelAt (c_Lin_channelAt hR hl hv (by omega)) (Nat.le_of_ble_eq_true rfl) ⟨Nat.le_of_ble_eq_true rfl, Nat.le_of_ble_eq_true rfl⟩ ?_
  refine wp_astore (lv' := [(6, .ref (Γ 7 (2 * l + (1 - c)))), (5, .ref (Γ 7 (2 * l + c))), (4, .ref (Γ 6 l)), (0, .ref (Γ 0 0)), (1, .ref fa), (2, .int (nI l)), (3, .int (nI c))]) d_Net_meet_23 (by decide) rfl ?_
  refine wp_aload_n d_Net_meet_25 rfl 4 rfl ?_
  refine wn_get_Frm d_Net_meet_26 (kfa) 0 (by decide) wF_Net_171 rfl ?_
  refine wp_toI (z := (nI se)) (f32) ?_
  refine wp_aload d_Net_meet_29 1 rfl ?_
  refine wn_get_Chn d_Net_meet_31 ((hR.ci (2 * l + c) hj16 hjs).1) 4 (by decide) wF_Net_248 rfl ?_
  refine wp_toI (z := (nI (cExp (sCh s (2 * l + c))))) ((hR.ci (2 * l + c) hj16 hjs).2.2.2.2.2.2.2.2.1) ?_
  refine wp_isub d_Net_meet_34 ?_
  refine wp_sipush (v := nI 999) d_Net_meet_35 (by decide) ?_
  refine wp_callVF (r := 0) d_Net_meet_38 (link_SF (av := [.int ((nI se) - (nI (cExp (sCh s (2 * l + c))))), .int (nI 999)]) (rest := []) d_Net_meet_38 cal_Math_floorMod wM_Net_280 rfl) cal_Math_floorMod (c_Math_floorMod hse hex) (Nat.le_of_ble_eq_true rfl) ⟨Nat.le_of_ble_eq_true rfl, Nat.le_of_ble_eq_true rfl⟩ ?_
  refine wp_istore (lv' := [(7, .int (nI ((se + 999 - cExp (sCh s (2 * l + c))) % 999))), (6, .ref (Γ 7 (2 * l + (1 - c)))), (5, .ref (Γ 7 (2 * l + c))), (4, .ref (Γ 6 l)), (0, .ref (Γ 0 0)), (1, .ref fa), (2, .int (nI l)), (3, .int (nI c))]) d_Net_meet_41 (by decide) rfl ?_
  refine wp_iload d_Net_meet_43 0 rfl ?_
  refine wp_if_neN (tgt := 111) d_Net_meet_45 (by decide) (by omega) (fun c45 => ?_) (fun c45 => ?_)
  · refine wp_iload d_Net_meet_111 0 rfl ?_
    refine wp_sipush (v := nI 400) d_Net_meet_113 (by decide) ?_
    refine wp_gtN (tgt := 135) d_Net_meet_116 (by decide) (by omega) (by omega) (fun c116 => ?_) (fun c116 => ?_)
    · omega
    · refine wp_aload d_Net_meet_119 1 rfl ?_
      refine wp_aload d_Net_meet_121 2 rfl ?_
      refine wn_get_Chn d_Net_meet_123 ((hR.ci (2 * l + c) hj16 hjs).1) 4 (by decide) wF_Net_248 rfl ?_
      refine wp_toI (z := (nI (cExp (sCh s (2 * l + c))))) ((hR.ci (2 * l + c) hj16 hjs).2.2.2.2.2.2.2.2.1) ?_
      refine wp_aload_n d_Net_meet_126 rfl 4 rfl ?_
      refine wn_get_Net d_Net_meet_127 (hR.nt.1) 6 (by decide) wF_Net_139 rfl ?_
      refine wp_toI (z := (nI (sMin s))) (hR.nt.2.2.2.2.2.2.2.1) ?_
      refine wp_callEU (k' := 1) (n' := 3) (r := 0) d_Net_meet_130 (link_V (as := [.int (nI (cExp (sCh s (2 * l + c)))), .int (nI (sMin s))]) (rest := []) (r := (R_Chn, T_Chn, 7)) d_Net_meet_130 cal_Chn_putRequest wM_Net_300 rfl (hN_o ((hR.ci (2 * l + (1 - c)) hk16 hks).1) (by decide)) rfl) cal_Chn_putRequest (c_Chn_putRequest0 hR hk16 hks hm30 (by rw [hot]; exact ht) htm hlt) (Nat.le_of_ble_eq_true rfl) ⟨Nat.le_of_ble_eq_true rfl, Nat.le_of_ble_eq_true rfl⟩ (fun h' q130 => ?_)
      refine wp_iconst (v := nI 2) d_Net_meet_133 (by decide) ?_
      exact wp_iret d_Net_meet_134 rfl ⟨rfl, q130⟩
  · omega
set_option maxRecDepth 20000 in
theorem c_Net_meet21 {G : Gt} {K N : Nat → Nat} {I : Nat → Nat → Int32} {R : Nat → Nat → Option Nat} {L : Nat → Nat → Int64} {E : Nat → Nat → Int32} {El : Nat → Nat → Int64} {Er : Nat → Nat → Option Nat} {Γ : Gm} {ρ : Nat → Nat} {s : Sa} (hR : RepN Γ ρ K N I R L E El Er s) {Γ : Gm} {ρ : Nat → Nat} {s : Sa} (hR : RepN Γ ρ K N I R L E El Er s) {l a b : Nat} (hl : l < 8) (hv : sLn s l = some (a, b, true)) {c : Nat} (hc : c < 2) {fa qa se j set : Nat} (kfa : K fa = 6 + 1) (f32 : I 32 fa = nI se) (f33 : R 33 fa = some qa) (kqa : K qa = 2 + 1) (q14 : R 14 qa = some (Γ 14 (j + 1))) (q15 : I 15 qa = nI set) (hse : 1 ≤ se ∧ se ≤ 999) (hex : 1 ≤ cExp (sCh s (2 * l + c)) ∧ cExp (sCh s (2 * l + c)) ≤ 999) {t : Nat} (ht : cAsk (sCh s (2 * l + c)) = some t) (htm : t ≤ sMin s) (hlt : ¬ sMin s < t + 3) (hm30 : sMin s < 2 ^ 30) (ha : (se + 999 - cExp (sCh s (2 * l + c))) % 999 ≤ 400) (ha0 : 0 < (se + 999 - cExp (sCh s (2 * l + c))) % 999) : CallE G m_Net_meet 7 95 [.ref (Γ 0 0), .ref fa, .int (nI l), .int (nI c)] (hN K N I R L E El Er) 1 3 (some (.int (nI 2))) (NetK Γ (ch1 (ch1 s (2 * l + c) (wAsk (sCh s (2 * l + c)) (some (sMin s)))) (2 * l + (1 - c)) (layC (sCh s (2 * l + (1 - c))) (2, cExp (sCh s (2 * l + c))))) K I R) := by
  have hj16 : 2 * l + c < 16 := by omega
  have hjs : (sLn s ((2 * l + c) / 2)).isSome = true := by rw [show (2 * l + c) / 2 = l by omega, hv]; rfl
  have hk16 : 2 * l + (1 - c) < 16 := by omega
  have hks : (sLn s ((2 * l + (1 - c)) / 2)).isSome = true := by rw [show (2 * l + (1 - c)) / 2 = l by omega, hv]; rfl
  have hot : otC (2 * l + (1 - c)) = 2 * l + c := by unfold otC; omega
  refine CallS.of (Nat.le_of_ble_eq_true rfl) ?_
  refine wp_aload_n d_Net_meet_0 rfl 0 rfl ?_
  refine wp_iload_n d_Net_meet_1 rfl 2 rfl ?_
  refine wp_callV (r := 0) d_Net_meet_2 (link_V (as := [.int (nI l)]) (rest := []) (r := (R_Net, T_Net, 7)) d_Net_meet_2 cal_Net_lineAt wM_Net_127 rfl (hN_o (hR.nt.1) (by decide)) rfl) cal_Net_lineAt (c_Net_lineAt hR hl hv) (Nat.le_of_ble_eq_true rfl) ⟨Nat.le_of_ble_eq_true rfl, Nat.le_of_ble_eq_true rfl⟩ ?_
  refine wp_astore (lv' := [(4, .ref (Γ 6 l)), (0, .ref (Γ 0 0)), (1, .ref fa), (2, .int (nI l)), (3, .int (nI c))]) d_Net_meet_5 (by decide) rfl ?_
  refine wp_aload d_Net_meet_7 0 rfl ?_
  refine wp_iload_n d_Net_meet_9 rfl 4 rfl ?_
  refine wp_callV (r := 0) d_Net_meet_10 (link_V (as := [.int (nI c)]) (rest := []) (r := (R_Lin, T_Lin, 5)) d_Net_meet_10 cal_Lin_channelAt wM_Net_131 rfl (hN_o (((hR.li l hl).2 _ _ _ hv).2.1) (by decide)) rfl) cal_Lin_channelAt (c_Lin_channelAt hR hl hv (by omega)) (Nat.le_of_ble_eq_true rfl) ⟨Nat.le_of_ble_eq_true rfl, Nat.le_of_ble_eq_true rfl⟩ ?_
  refine wp_astore (lv' := [(5, .ref (Γ 7 (2 * l + c))), (4, .ref (Γ 6 l)), (0, .ref (Γ 0 0)), (1, .ref fa), (2, .int (nI l)), (3, .int (nI c))]) d_Net_meet_13 (by decide) rfl ?_
  refine wp_aload d_Net_meet_15 1 rfl ?_
  refine wp_iconst (v := nI 1) d_Net_meet_17 (by decide) ?_
  refine wp_iload_n d_Net_meet_18 rfl 5 rfl ?_
  refine wp_isubN d_Net_meet_19 (by omega) ?_
  refine wp_callV (r := 0) d_Net_meet_20 (link_V (as := [.int (nI (1 - c))]) (rest := []) (r := (R_Lin, T_Lin, 5)) d_Net_meet_20 cal_Lin_channelAt wM_Net_131 rfl (hN_o (((hR.li l hl).2 _ _ _ hv).2.1) (by decide)) rfl) cal_Lin_channelAt (c_Lin_channelAt hR hl hv (by omega)) (Nat.le_of_ble_eq_true rfl) ⟨Nat.le_of_ble_eq_true rfl, Nat.le_of_ble_eq_true rfl⟩ ?_
  refine wp_astore (lv' := [(6, .ref (Γ 7 (2 * l + (1 - c)))), (5, .ref (Γ 7 (2 * l + c))), (4, .ref (Γ 6 l)), (0, .ref (Γ 0 0)), (1, .ref fa), (2, .int (nI l)), (3, .int (nI c))]) d_Net_meet_23 (by decide) rfl ?_
  refine wp_aload_n d_Net_meet_25 rfl 4 rfl ?_
  refine wn_get_Frm d_Net_meet_26 (kfa) 0 (by decide) wF_Net_171 rfl ?_
  refine wp_toI (z := (nI se)) (f32) ?_
  refine wp_aload d_Net_meet_29 1 rfl ?_
  refine wn_get_Chn d_Net_meet_31 ((hR.ci (2 * l + c) hj16 hjs).1) 4 (by decide) wF_Net_248 rfl ?_
  refine wp_toI (z := (nI (cExp (sCh s (2 * l + c))))) ((hR.ci (2 * l + c) hj16 hjs).2.2.2.2.2.2.2.2.1) ?_
  refine wp_isub d_Net_meet_34 ?_
  refine wp_sipush (v := nI 999) d_Net_meet_35 (by decide) ?_
  refine wp_callVF (r := 0) d_Net_meet_38 (link_SF (av := [.int ((nI se) - (nI (cExp (sCh s (2 * l + c))))), .int (nI 999)]) (rest := []) d_Net_meet_38 cal_Math_floorMod wM_Net_280 rfl) cal_Math_floorMod (c_Math_floorMod hse hex) (Nat.le_of_ble_eq_true rfl) ⟨Nat.le_of_ble_eq_true rfl, Nat.le_of_ble_eq_true rfl⟩ ?_
  refine wp_istore (lv' := [(7, .int (nI ((se + 999 - cExp (sCh s (2 * l + c))) % 999))), (6, .ref (Γ 7 (2 * l + (1 - c)))), (5, .ref (Γ 7 (2 * l + c))), (4, .ref (Γ 6 l)), (0, .ref (Γ 0 0)), (1, .ref fa), (2, .int (nI l)), (3, .int (nI c))]) d_Net_meet_41 (by decide) rfl ?_
  refine wp_iload d_Net_meet_43 0 rfl ?_
  refine wp_if_neN (tgt := 111) d_Net_meet_45 (by decide) (by omega) (fun c45 => ?_) (fun c45 => ?_)
  · refine wp_iload d_Net_meet_111 0 rfl ?_
    refine wp_sipush (v := nI 400) d_Net_meet_113 (by decide) ?_
    refine wp_gtN (tgt := 135) d_Net_meet_116 (by decide) (by omega) (by omega) (fun c116 => ?_) (fun c116 => ?_)
    · omega
    · refine wp_aload d_Net_meet_119 1 rfl ?_
      refine wp_aload d_Net_meet_121 2 rfl ?_
      refine wn_get_Chn d_Net_meet_123 ((hR.ci (2 * l + c) hj16 hjs).1) 4 (by decide) wF_Net_248 rfl ?_
      refine wp_toI (z := (nI (cExp (sCh s (2 * l + c))))) ((hR.ci (2 * l + c) hj16 hjs).2.2.2.2.2.2.2.2.1) ?_
      refine wp_aload_n d_Net_meet_126 rfl 4 rfl ?_
      refine wn_get_Net d_Net_meet_127 (hR.nt.1) 6 (by decide) wF_Net_139 rfl ?_
      refine wp_toI (z := (nI (sMin s))) (hR.nt.2.2.2.2.2.2.2.1) ?_
      refine wp_callEU (k' := 1) (n' := 3) (r := 0) d_Net_meet_130 (link_V (as := [.int (nI (cExp (sCh s (2 * l + c)))), .int (nI (sMin s))]) (rest := []) (r := (R_Chn, T_Chn, 7)) d_Net_meet_130 cal_Chn_putRequest wM_Net_300 rfl (hN_o ((hR.ci (2 * l + (1 - c)) hk16 hks).1) (by decide)) rfl) cal_Chn_putRequest (c_Chn_putRequest1 hR hk16 hks hm30 (by rw [hot]; exact ht) htm hlt) (Nat.le_of_ble_eq_true rfl) ⟨Nat.le_of_ble_eq_true rfl, Nat.le_of_ble_eq_true rfl⟩ (fun h' q130 => ?_)
      refine wp_iconst (v := nI 2) d_Net_meet_133 (by decide) ?_
      exact wp_iret d_Net_meet_134 rfl ⟨rfl, (by have h9 := q130; rw [hot] at h9; exact h9)⟩
  · omega
set_option maxRecDepth 20000 in
theorem c_Net_meet22 {G : Gt} {K N : Nat → Nat} {I : Nat → Nat → Int32} {R : Nat → Nat → Option Nat} {L : Nat → Nat → Int64} {E : Nat → Nat → Int32} {El : Nat → Nat → Int64} {Er : Nat → Nat → Option Nat} {Γ : Gm} {ρ : Nat → Nat} {s : Sa} (hR : RepN Γ ρ K N I R L E El Er s) {Γ : Gm} {ρ : Nat → Nat} {s : Sa} (hR : RepN Γ ρ K N I R L E El Er s) {l a b : Nat} (hl : l < 8) (hv : sLn s l = some (a, b, true)) {c : Nat} (hc : c < 2) {fa qa se j set : Nat} (kfa : K fa = 6 + 1) (f32 : I 32 fa = nI se) (f33 : R 33 fa = some qa) (kqa : K qa = 2 + 1) (q14 : R 14 qa = some (Γ 14 (j + 1))) (q15 : I 15 qa = nI set) (hse : 1 ≤ se ∧ se ≤ 999) (hex : 1 ≤ cExp (sCh s (2 * l + c)) ∧ cExp (sCh s (2 * l + c)) ≤ 999) (ht : cAsk (sCh s (2 * l + c)) = none) (hm30 : sMin s < 2 ^ 30) (ha : (se + 999 - cExp (sCh s (2 * l + c))) % 999 ≤ 400) (ha0 : 0 < (se + 999 - cExp (sCh s (2 * l + c))) % 999) : CallE G m_Net_meet 7 95 [.ref (Γ 0 0), .ref fa, .int (nI l), .int (nI c)] (hN K N I R L E El Er) 1 3 (some (.int (nI 2))) (NetK Γ (ch1 (ch1 s (2 * l + c) (wAsk (sCh s (2 * l + c)) (some (sMin s)))) (2 * l + (1 - c)) (layC (sCh s (2 * l + (1 - c))) (2, cExp (sCh s (2 * l + c))))) K I R) := by
  have hj16 : 2 * l + c < 16 := by omega
  have hjs : (sLn s ((2 * l + c) / 2)).isSome = true := by rw [show (2 * l + c) / 2 = l by omega, hv]; rfl
  have hk16 : 2 * l + (1 - c) < 16 := by omega
  have hks : (sLn s ((2 * l + (1 - c)) / 2)).isSome = true := by rw [show (2 * l + (1 - c)) / 2 = l by omega, hv]; rfl
  have hot : otC (2 * l + (1 - c)) = 2 * l + c := by unfold otC; omega
  refine CallS.of (Nat.le_of_ble_eq_true rfl) ?_
  refine wp_aload_n d_Net_meet_0 rfl 0 rfl ?_
  refine wp_iload_n d_Net_meet_1 rfl 2 rfl ?_
  refine wp_callV (r := 0) d_Net_meet_2 (link_V (as := [.int (nI l)]) (rest := []) (r := (R_Net, T_Net, 7)) d_Net_meet_2 cal_Net_lineAt wM_Net_127 rfl (hN_o (hR.nt.1) (by decide)) rfl) cal_Net_lineAt (c_Net_lineAt hR hl hv) (Nat.le_of_ble_eq_true rfl) ⟨Nat.le_of_ble_eq_true rfl, Nat.le_of_ble_eq_true rfl⟩ ?_
  refine wp_astore (lv' := [(4, .ref (Γ 6 l)), (0, .ref (Γ 0 0)), (1, .ref fa), (2, .int (nI l)), (3, .int (nI c))]) d_Net_meet_5 (by decide) rfl ?_
  refine wp_aload d_Net_meet_7 0 rfl ?_
  refine wp_iload_n d_Net_meet_9 rfl 4 rfl ?_
  refine wp_callV (r := 0) d_Net_meet_10 (link_V (as := [.int (nI c)]) (rest := []) (r := (R_Lin, T_Lin, 5)) d_Net_meet_10 cal_Lin_channelAt wM_Net_131 rfl (hN_o (((hR.li l hl).2 _ _ _ hv).2.1) (by decide)) rfl) cal_Lin_channelAt (c_Lin_channelAt hR hl hv (by omega)) (Nat.le_of_ble_eq_true rfl) ⟨Nat.le_of_ble_eq_true rfl, Nat.le_of_ble_eq_true rfl⟩ ?_
  refine wp_astore (lv' := [(5, .ref (Γ 7 (2 * l + c))), (4, .ref (Γ 6 l)), (0, .ref (Γ 0 0)), (1, .ref fa), (2, .int (nI l)), (3, .int (nI c))]) d_Net_meet_13 (by decide) rfl ?_
  refine wp_aload d_Net_meet_15 1 rfl ?_
  refine wp_iconst (v := nI 1) d_Net_meet_17 (by decide) ?_
  refine wp_iload_n d_Net_meet_18 rfl 5 rfl ?_
  refine wp_isubN d_Net_meet_19 (by omega) ?_
  refine wp_callV (r := 0) d_Net_meet_20 (link_V (as := [.int (nI (1 - c))]) (rest := []) (r := (R_Lin, T_Lin, 5)) d_Net_meet_20 cal_Lin_channelAt wM_Net_131 rfl (hN_o (((hR.li l hl).2 _ _ _ hv).2.1) (by decide)) rfl) cal_Lin_channelAt (c_Lin_channelAt hR hl hv (by omega)) (Nat.le_of_ble_eq_true rfl) ⟨Nat.le_of_ble_eq_true rfl, Nat.le_of_ble_eq_true rfl⟩ ?_
  refine wp_astore (lv' := [(6, .ref (Γ 7 (2 * l + (1 - c)))), (5, .ref (Γ 7 (2 * l + c))), (4, .ref (Γ 6 l)), (0, .ref (Γ 0 0)), (1, .ref fa), (2, .int (nI l)), (3, .int (nI c))]) d_Net_meet_23 (by decide) rfl ?_
  refine wp_aload_n d_Net_meet_25 rfl 4 rfl ?_
  refine wn_get_Frm d_Net_meet_26 (kfa) 0 (by decide) wF_Net_171 rfl ?_
  refine wp_toI (z := (nI se)) (f32) ?_
  refine wp_aload d_Net_meet_29 1 rfl ?_
  refine wn_get_Chn d_Net_meet_31 ((hR.ci (2 * l + c) hj16 hjs).1) 4 (by decide) wF_Net_248 rfl ?_
  refine wp_toI (z := (nI (cExp (sCh s (2 * l + c))))) ((hR.ci (2 * l + c) hj16 hjs).2.2.2.2.2.2.2.2.1) ?_
  refine wp_isub d_Net_meet_34 ?_
  refine wp_sipush (v := nI 999) d_Net_meet_35 (by decide) ?_
  refine wp_callVF (r := 0) d_Net_meet_38 (link_SF (av := [.int ((nI se) - (nI (cExp (sCh s (2 * l + c))))), .int (nI 999)]) (rest := []) d_Net_meet_38 cal_Math_floorMod wM_Net_280 rfl) cal_Math_floorMod (c_Math_floorMod hse hex) (Nat.le_of_ble_eq_true rfl) ⟨Nat.le_of_ble_eq_true rfl, Nat.le_of_ble_eq_true rfl⟩ ?_
  refine wp_istore (lv' := [(7, .int (nI ((se + 999 - cExp (sCh s (2 * l + c))) % 999))), (6, .ref (Γ 7 (2 * l + (1 - c)))), (5, .ref (Γ 7 (2 * l + c))), (4, .ref (Γ 6 l)), (0, .ref (Γ 0 0)), (1, .ref fa), (2, .int (nI l)), (3, .int (nI c))]) d_Net_meet_41 (by decide) rfl ?_
  refine wp_iload d_Net_meet_43 0 rfl ?_
  refine wp_if_neN (tgt := 111) d_Net_meet_45 (by decide) (by omega) (fun c45 => ?_) (fun c45 => ?_)
  · refine wp_iload d_Net_meet_111 0 rfl ?_
    refine wp_sipush (v := nI 400) d_Net_meet_113 (by decide) ?_
    refine wp_gtN (tgt := 135) d_Net_meet_116 (by decide) (by omega) (by omega) (fun c116 => ?_) (fun c116 => ?_)
    · omega
    · refine wp_aload d_Net_meet_119 1 rfl ?_
      refine wp_aload d_Net_meet_121 2 rfl ?_
      refine wn_get_Chn d_Net_meet_123 ((hR.ci (2 * l + c) hj16 hjs).1) 4 (by decide) wF_Net_248 rfl ?_
      refine wp_toI (z := (nI (cExp (sCh s (2 * l + c))))) ((hR.ci (2 * l + c) hj16 hjs).2.2.2.2.2.2.2.2.1) ?_
      refine wp_aload_n d_Net_meet_126 rfl 4 rfl ?_
      refine wn_get_Net d_Net_meet_127 (hR.nt.1) 6 (by decide) wF_Net_139 rfl ?_
      refine wp_toI (z := (nI (sMin s))) (hR.nt.2.2.2.2.2.2.2.1) ?_
      refine wp_callEU (k' := 1) (n' := 3) (r := 0) d_Net_meet_130 (link_V (as := [.int (nI (cExp (sCh s (2 * l + c)))), .int (nI (sMin s))]) (rest := []) (r := (R_Chn, T_Chn, 7)) d_Net_meet_130 cal_Chn_putRequest wM_Net_300 rfl (hN_o ((hR.ci (2 * l + (1 - c)) hk16 hks).1) (by decide)) rfl) cal_Chn_putRequest (c_Chn_putRequest2 hR hk16 hks hm30 (by rw [hot]; exact ht)) (Nat.le_of_ble_eq_true rfl) ⟨Nat.le_of_ble_eq_true rfl, Nat.le_of_ble_eq_true rfl⟩ (fun h' q130 => ?_)
      refine wp_iconst (v := nI 2) d_Net_meet_133 (by decide) ?_
      exact wp_iret d_Net_meet_134 rfl ⟨rfl, (by have h9 := q130; rw [hot] at h9; exact h9)⟩
  · omega
set_option maxRecDepth 20000 in
theorem c_Net_meet10 {G : Gt} {K N : Nat → Nat} {I : Nat → Nat → Int32} {R : Nat → Nat → Option Nat} {L : Nat → Nat → Int64} {E : Nat → Nat → Int32} {El : Nat → Nat → Int64} {Er : Nat → Nat → Option Nat} {Γ : Gm} {ρ : Nat → Nat} {s : Sa} (hR : RepN Γ ρ K N I R L E El Er s) {Γ : Gm} {ρ : Nat → Nat} {s : Sa} (hR : RepN Γ ρ K N I R L E El Er s) {l a b : Nat} (hl : l < 8) (hv : sLn s l = some (a, b, true)) {fa qa se j set : Nat} (kfa : K fa = 6 + 1) (f32 : I 32 fa = nI se) (f33 : R 33 fa = some qa) (kqa : K qa = 2 + 1) (q14 : R 14 qa = some (Γ 14 (j + 1))) (q15 : I 15 qa = nI set) (hse : 1 ≤ se ∧ se ≤ 999) (hex : 1 ≤ cExp (sCh s (2 * l + 0)) ∧ cExp (sCh s (2 * l + 0)) ≤ 999) {m : Nat × List (List Nat) × Nat × Nat} {s2 : Sa} (hsx : se % 999 + 1 = cExp (sCh s (2 * l + 0)) % 999 + 1) (he6 : b < 6) (hset : set < 2 ^ 7) (hs2 : s2 = (ch1 (ch1 s (2 * l + 0) (wExp (sCh s (2 * l + 0)) (cExp (sCh s (2 * l + 0)) % 999 + 1))) (2 * l + (1 - 0)) (layC (sCh (ch1 s (2 * l + 0) (wExp (sCh s (2 * l + 0)) (cExp (sCh s (2 * l + 0)) % 999 + 1))) (2 * l + (1 - 0))) (1, se)))) (hm2 : (sMs s2)[j]? = some m) (hv2 : sLn s2 l = some (a, b, true)) (hp2 : prioOf s2 (j + 1) < 5) (hCI : CI s2) (hCS : ∀ x, CS s2 x) (ha : (se + 999 - cExp (sCh s (2 * l + 0))) % 999 = 0) : CallE G m_Net_meet 7 95 [.ref (Γ 0 0), .ref fa, .int (nI l), .int (nI 0)] (hN K N I R L E El Er) (0 + pc7 set + 1) (0 + 4 * pc7 set + 3) (some (.int (nI 1))) (NetK Γ (comesS s2 b (j + 1) set (l + 1)) K I R) := by
  have hj16 : 2 * l + 0 < 16 := by omega
  have hjs : (sLn s ((2 * l + 0) / 2)).isSome = true := by rw [show (2 * l + 0) / 2 = l by omega, hv]; rfl
  have hk16 : 2 * l + (1 - 0) < 16 := by omega
  have hks : (sLn s ((2 * l + (1 - 0)) / 2)).isSome = true := by rw [show (2 * l + (1 - 0)) / 2 = l by omega, hv]; rfl
  have hot : otC (2 * l + (1 - 0)) = 2 * l + 0 := by unfold otC; omega
  refine CallS.of (Nat.le_of_ble_eq_true rfl) ?_
  refine wp_aload_n d_Net_meet_0 rfl 0 rfl ?_
  refine wp_iload_n d_Net_meet_1 rfl 2 rfl ?_
  refine wp_callV (r := 0) d_Net_meet_2 (link_V (as := [.int (nI l)]) (rest := []) (r := (R_Net, T_Net, 7)) d_Net_meet_2 cal_Net_lineAt wM_Net_127 rfl (hN_o (hR.nt.1) (by decide)) rfl) cal_Net_lineAt (c_Net_lineAt hR hl hv) (Nat.le_of_ble_eq_true rfl) ⟨Nat.le_of_ble_eq_true rfl, Nat.le_of_ble_eq_true rfl⟩ ?_
  refine wp_astore (lv' := [(4, .ref (Γ 6 l)), (0, .ref (Γ 0 0)), (1, .ref fa), (2, .int (nI l)), (3, .int (nI 0))]) d_Net_meet_5 (by decide) rfl ?_
  refine wp_aload d_Net_meet_7 0 rfl ?_
  refine wp_iload_n d_Net_meet_9 rfl 4 rfl ?_
  refine wp_callV (r := 0) d_Net_meet_10 (link_V (as := [.int (nI 0)]) (rest := []) (r := (R_Lin, T_Lin, 5)) d_Net_meet_10 cal_Lin_channelAt wM_Net_131 rfl (hN_o (((hR.li l hl).2 _ _ _ hv).2.1) (by decide)) rfl) cal_Lin_channelAt (c_Lin_channelAt hR hl hv (by omega)) (Nat.le_of_ble_eq_true rfl) ⟨Nat.le_of_ble_eq_true rfl, Nat.le_of_ble_eq_true rfl⟩ ?_
  refine wp_astore (lv' := [(5, .ref (Γ 7 (2 * l + 0))), (4, .ref (Γ 6 l)), (0, .ref (Γ 0 0)), (1, .ref fa), (2, .int (nI l)), (3, .int (nI 0))]) d_Net_meet_13 (by decide) rfl ?_
  refine wp_aload d_Net_meet_15 1 rfl ?_
  refine wp_iconst (v := nI 1) d_Net_meet_17 (by decide) ?_
  refine wp_iload_n d_Net_meet_18 rfl 5 rfl ?_
  refine wp_isubN d_Net_meet_19 (by omega) ?_
  refine wp_callV (r := 0) d_Net_meet_20 (link_V (as := [.int (nI (1 - 0))]) (rest := []) (r := (R_Lin, T_Lin, 5)) d_Net_meet_20 cal_Lin_channelAt wM_Net_131 rfl (hN_o (((hR.li l hl).2 _ _ _ hv).2.1) (by decide)) rfl) cal_Lin_channelAt (c_Lin_channelAt hR hl hv (by omega)) (Nat.le_of_ble_eq_true rfl) ⟨Nat.le_of_ble_eq_true rfl, Nat.le_of_ble_eq_true rfl⟩ ?_
  refine wp_astore (lv' := [(6, .ref (Γ 7 (2 * l + (1 - 0)))), (5, .ref (Γ 7 (2 * l + 0))), (4, .ref (Γ 6 l)), (0, .ref (Γ 0 0)), (1, .ref fa), (2, .int (nI l)), (3, .int (nI 0))]) d_Net_meet_23 (by decide) rfl ?_
  refine wp_aload_n d_Net_meet_25 rfl 4 rfl ?_
  refine wn_get_Frm d_Net_meet_26 (kfa) 0 (by decide) wF_Net_171 rfl ?_
  refine wp_toI (z := (nI se)) (f32) ?_
  refine wp_aload d_Net_meet_29 1 rfl ?_
  refine wn_get_Chn d_Net_meet_31 ((hR.ci (2 * l + 0) hj16 hjs).1) 4 (by decide) wF_Net_248 rfl ?_
  refine wp_toI (z := (nI (cExp (sCh s (2 * l + 0))))) ((hR.ci (2 * l + 0) hj16 hjs).2.2.2.2.2.2.2.2.1) ?_
  refine wp_isub d_Net_meet_34 ?_
  refine wp_sipush (v := nI 999) d_Net_meet_35 (by decide) ?_
  refine wp_callVF (r := 0) d_Net_meet_38 (link_SF (av := [.int ((nI se) - (nI (cExp (sCh s (2 * l + 0))))), .int (nI 999)]) (rest := []) d_Net_meet_38 cal_Math_floorMod wM_Net_280 rfl) cal_Math_floorMod (c_Math_floorMod hse hex) (Nat.le_of_ble_eq_true rfl) ⟨Nat.le_of_ble_eq_true rfl, Nat.le_of_ble_eq_true rfl⟩ ?_
  refine wp_istore (lv' := [(7, .int (nI ((se + 999 - cExp (sCh s (2 * l + 0))) % 999))), (6, .ref (Γ 7 (2 * l + (1 - 0)))), (5, .ref (Γ 7 (2 * l + 0))), (4, .ref (Γ 6 l)), (0, .ref (Γ 0 0)), (1, .ref fa), (2, .int (nI l)), (3, .int (nI 0))]) d_Net_meet_41 (by decide) rfl ?_
  refine wp_iload d_Net_meet_43 0 rfl ?_
  refine wp_if_neN (tgt := 111) d_Net_meet_45 (by decide) (by omega) (fun c45 => ?_) (fun c45 => ?_)
  · omega
  · refine wp_aload d_Net_meet_48 2 rfl ?_
    refine wp_aload_n d_Net_meet_50 rfl 5 rfl ?_
    refine wn_get_Frm d_Net_meet_51 (kfa) 0 (by decide) wF_Net_171 rfl ?_
    refine wp_toI (z := (nI se)) (f32) ?_
    refine wp_callV (r := 1) d_Net_meet_54 (link_S (av := [.int (nI se)]) (rest := [.ref (Γ 7 (2 * l + 0))]) d_Net_meet_54 cal_Net_serialBehind wM_Net_286 rfl) cal_Net_serialBehind (c_Net_serialBehind (x := se) (by omega)) (Nat.le_of_ble_eq_true rfl) ⟨Nat.le_of_ble_eq_true rfl, Nat.le_of_ble_eq_true rfl⟩ ?_
    refine wn_put_Chn (ty := t_Chn 4) (I' := u2 I 11 (Γ 7 (2 * l + 0)) (nI (se % 999 + 1))) (R' := R) (L' := L) d_Net_meet_57 ((hR.ci (2 * l + 0) hj16 hjs).1) 4 (by decide) wF_Net_248 rfl (t_Chn_ok 4 (by decide)) rfl rfl sF_11 (oI _ _ _ 11 _) ?_
    have hR1 : RepN Γ ρ K N (u2 I 11 (Γ 7 (2 * l + 0)) (nI (se % 999 + 1))) R L E El Er (ch1 s (2 * l + 0) (wExp (sCh s (2 * l + 0)) (cExp (sCh s (2 * l + 0)) % 999 + 1))) := hR.num hj16 hjs (Or.inl ⟨rfl, rfl, by rw [hsx]; rfl, rfl⟩)
    refine wp_aload d_Net_meet_60 1 rfl ?_
    refine wp_aload_n d_Net_meet_62 rfl 5 rfl ?_
    refine wn_get_Frm d_Net_meet_63 (kfa) 0 (by decide) wF_Net_171 rfl ?_
    refine wp_toI (z := (nI se)) (by rw [u2_ne _ _ (by decide)]; exact f32) ?_
    refine wp_callEU (k' := 1) (n' := 3) (r := 0) d_Net_meet_66 (link_V (as := [.int (nI se)]) (rest := []) (r := (R_Chn, T_Chn, 7)) d_Net_meet_66 cal_Chn_putAcknowledgement wM_Net_289 rfl (hN_o ((hR.ci (2 * l + (1 - 0)) hk16 hks).1) (by decide)) rfl) cal_Chn_putAcknowledgement (c_Chn_putAcknowledgement hR1 hk16 hks) (Nat.le_of_ble_eq_true rfl) ⟨Nat.le_of_ble_eq_true rfl, Nat.le_of_ble_eq_true rfl⟩ (fun h' q66 => ?_)
    obtain ⟨ρ2, K2, N2, I2, R2, L2, E2, El2, Er2, rfl, hR2, kp2⟩ := q66
    have kq0 := kp2 qa (by omega)
    have kf0 := kp2 fa (by omega)
    rw [← hs2] at hR2
    refine wp_iload_n d_Net_meet_69 rfl 7 rfl ?_
    refine wp_if_neN (tgt := 81) d_Net_meet_70 (by decide) (by omega) (fun c => absurd c (by decide)) (fun _ => ?_)
    refine wp_aload d_Net_meet_73 3 rfl ?_
    refine wn_get_Lin d_Net_meet_75 (((hR2.li l hl).2 _ _ _ hv2).2.1) 1 (by decide) wF_Net_193 rfl ?_
    refine wp_toI (z := (nI b)) (((hR2.li l hl).2 _ _ _ hv2).2.2.2.2.1) ?_
    refine wp_goto (tgt := 86) d_Net_meet_78 (by decide) ?_
    refine wp_istore (lv' := [(8, .int (nI b)), (7, .int (nI ((se + 999 - cExp (sCh s (2 * l + 0))) % 999))), (6, .ref (Γ 7 (2 * l + (1 - 0)))), (5, .ref (Γ 7 (2 * l + 0))), (4, .ref (Γ 6 l)), (0, .ref (Γ 0 0)), (1, .ref fa), (2, .int (nI l)), (3, .int (nI 0))]) d_Net_meet_86 (by decide) rfl ?_
    refine wp_aload_n d_Net_meet_88 rfl 5 rfl ?_
    refine wp_iload d_Net_meet_89 0 rfl ?_
    refine wp_aload_n d_Net_meet_91 rfl 6 rfl ?_
    refine wn_get_Frm d_Net_meet_92 ((kf0.1).trans kfa) 1 (by decide) wF_Net_158 rfl ?_
    refine wp_toVR (o := some qa) (z := .ref qa) ((kf0.2.2.1).trans f33) rfl ?_
    refine wn_get_Cpy d_Net_meet_95 ((kq0.1).trans kqa) 0 (by decide) wF_Net_292 rfl ?_
    refine wp_toVR (o := some (Γ 14 (j + 1))) (z := .ref (Γ 14 (j + 1))) ((kq0.2.1).trans q14) rfl ?_
    refine wp_aload_n d_Net_meet_98 rfl 6 rfl ?_
    refine wn_get_Frm d_Net_meet_99 ((kf0.1).trans kfa) 1 (by decide) wF_Net_158 rfl ?_
    refine wp_toVR (o := some qa) (z := .ref qa) ((kf0.2.2.1).trans f33) rfl ?_
    refine wn_get_Cpy d_Net_meet_102 ((kq0.1).trans kqa) 1 (by decide) wF_Net_298 rfl ?_
    refine wp_toI (z := (nI set)) ((kq0.2.2.2.1).trans (by rw [u2_ne _ _ (by decide)]; exact q15)) ?_
    refine wp_iload_n d_Net_meet_105 rfl 7 rfl ?_
    refine wp_callEU (k' := (pc7 set)) (n' := (4 * pc7 set)) (r := 0) d_Net_meet_106 (link_V (as := [.int (nI b), .ref (Γ 14 (j + 1)), .int (nI set), .int (nI l)]) (rest := []) (r := (R_Net, T_Net, 7)) d_Net_meet_106 cal_Net_comeTo wM_Net_123 rfl (hN_o (hR2.nt.1) (by decide)) rfl) cal_Net_comeTo (c_Net_comeTo (by1 := l + 1) hR2 hm2 hCI (hCS b) he6 hset (by omega) hp2) (Nat.le_of_ble_eq_true rfl) ⟨Nat.le_of_ble_eq_true rfl, Nat.le_of_ble_eq_true rfl⟩ (fun h' q106 => ?_)
    refine wp_iconst (v := nI 1) d_Net_meet_109 (by decide) ?_
    exact wp_iret d_Net_meet_110 rfl ⟨rfl, NetK.tr ((Kp_u (by decide)).tr kp2) q106⟩
set_option maxRecDepth 20000 in
theorem c_Net_meet11 {G : Gt} {K N : Nat → Nat} {I : Nat → Nat → Int32} {R : Nat → Nat → Option Nat} {L : Nat → Nat → Int64} {E : Nat → Nat → Int32} {El : Nat → Nat → Int64} {Er : Nat → Nat → Option Nat} {Γ : Gm} {ρ : Nat → Nat} {s : Sa} (hR : RepN Γ ρ K N I R L E El Er s) {Γ : Gm} {ρ : Nat → Nat} {s : Sa} (hR : RepN Γ ρ K N I R L E El Er s) {l a b : Nat} (hl : l < 8) (hv : sLn s l = some (a, b, true)) {fa qa se j set : Nat} (kfa : K fa = 6 + 1) (f32 : I 32 fa = nI se) (f33 : R 33 fa = some qa) (kqa : K qa = 2 + 1) (q14 : R 14 qa = some (Γ 14 (j + 1))) (q15 : I 15 qa = nI set) (hse : 1 ≤ se ∧ se ≤ 999) (hex : 1 ≤ cExp (sCh s (2 * l + 1)) ∧ cExp (sCh s (2 * l + 1)) ≤ 999) {m : Nat × List (List Nat) × Nat × Nat} {s2 : Sa} (hsx : se % 999 + 1 = cExp (sCh s (2 * l + 1)) % 999 + 1) (he6 : a < 6) (hset : set < 2 ^ 7) (hs2 : s2 = (ch1 (ch1 s (2 * l + 1) (wExp (sCh s (2 * l + 1)) (cExp (sCh s (2 * l + 1)) % 999 + 1))) (2 * l + (1 - 1)) (layC (sCh (ch1 s (2 * l + 1) (wExp (sCh s (2 * l + 1)) (cExp (sCh s (2 * l + 1)) % 999 + 1))) (2 * l + (1 - 1))) (1, se)))) (hm2 : (sMs s2)[j]? = some m) (hv2 : sLn s2 l = some (a, b, true)) (hp2 : prioOf s2 (j + 1) < 5) (hCI : CI s2) (hCS : ∀ x, CS s2 x) (ha : (se + 999 - cExp (sCh s (2 * l + 1))) % 999 = 0) : CallE G m_Net_meet 7 95 [.ref (Γ 0 0), .ref fa, .int (nI l), .int (nI 1)] (hN K N I R L E El Er) (0 + pc7 set + 1) (0 + 4 * pc7 set + 3) (some (.int (nI 1))) (NetK Γ (comesS s2 a (j + 1) set (l + 1)) K I R) := by
  have hj16 : 2 * l + 1 < 16 := by omega
  have hjs : (sLn s ((2 * l + 1) / 2)).isSome = true := by rw [show (2 * l + 1) / 2 = l by omega, hv]; rfl
  have hk16 : 2 * l + (1 - 1) < 16 := by omega
  have hks : (sLn s ((2 * l + (1 - 1)) / 2)).isSome = true := by rw [show (2 * l + (1 - 1)) / 2 = l by omega, hv]; rfl
  have hot : otC (2 * l + (1 - 1)) = 2 * l + 1 := by unfold otC; omega
  refine CallS.of (Nat.le_of_ble_eq_true rfl) ?_
  refine wp_aload_n d_Net_meet_0 rfl 0 rfl ?_
  refine wp_iload_n d_Net_meet_1 rfl 2 rfl ?_
  refine wp_callV (r := 0) d_Net_meet_2 (link_V (as := [.int (nI l)]) (rest := []) (r := (R_Net, T_Net, 7)) d_Net_meet_2 cal_Net_lineAt wM_Net_127 rfl (hN_o (hR.nt.1) (by decide)) rfl) cal_Net_lineAt (c_Net_lineAt hR hl hv) (Nat.le_of_ble_eq_true rfl) ⟨Nat.le_of_ble_eq_true rfl, Nat.le_of_ble_eq_true rfl⟩ ?_
  refine wp_astore (lv' := [(4, .ref (Γ 6 l)), (0, .ref (Γ 0 0)), (1, .ref fa), (2, .int (nI l)), (3, .int (nI 1))]) d_Net_meet_5 (by decide) rfl ?_
  refine wp_aload d_Net_meet_7 0 rfl ?_
  refine wp_iload_n d_Net_meet_9 rfl 4 rfl ?_
  refine wp_callV (r := 0) d_Net_meet_10 (link_V (as := [.int (nI 1)]) (rest := []) (r := (R_Lin, T_Lin, 5)) d_Net_meet_10 cal_Lin_channelAt wM_Net_131 rfl (hN_o (((hR.li l hl).2 _ _ _ hv).2.1) (by decide)) rfl) cal_Lin_channelAt (c_Lin_channelAt hR hl hv (by omega)) (Nat.le_of_ble_eq_true rfl) ⟨Nat.le_of_ble_eq_true rfl, Nat.le_of_ble_eq_true rfl⟩ ?_
  refine wp_astore (lv' := [(5, .ref (Γ 7 (2 * l + 1))), (4, .ref (Γ 6 l)), (0, .ref (Γ 0 0)), (1, .ref fa), (2, .int (nI l)), (3, .int (nI 1))]) d_Net_meet_13 (by decide) rfl ?_
  refine wp_aload d_Net_meet_15 1 rfl ?_
  refine wp_iconst (v := nI 1) d_Net_meet_17 (by decide) ?_
  refine wp_iload_n d_Net_meet_18 rfl 5 rfl ?_
  refine wp_isubN d_Net_meet_19 (by omega) ?_
  refine wp_callV (r := 0) d_Net_meet_20 (link_V (as := [.int (nI (1 - 1))]) (rest := []) (r := (R_Lin, T_Lin, 5)) d_Net_meet_20 cal_Lin_channelAt wM_Net_131 rfl (hN_o (((hR.li l hl).2 _ _ _ hv).2.1) (by decide)) rfl) cal_Lin_channelAt (c_Lin_channelAt hR hl hv (by omega)) (Nat.le_of_ble_eq_true rfl) ⟨Nat.le_of_ble_eq_true rfl, Nat.le_of_ble_eq_true rfl⟩ ?_
  refine wp_astore (lv' := [(6, .ref (Γ 7 (2 * l + (1 - 1)))), (5, .ref (Γ 7 (2 * l + 1))), (4, .ref (Γ 6 l)), (0, .ref (Γ 0 0)), (1, .ref fa), (2, .int (nI l)), (3, .int (nI 1))]) d_Net_meet_23 (by decide) rfl ?_
  refine wp_aload_n d_Net_meet_25 rfl 4 rfl ?_
  refine wn_get_Frm d_Net_meet_26 (kfa) 0 (by decide) wF_Net_171 rfl ?_
  refine wp_toI (z := (nI se)) (f32) ?_
  refine wp_aload d_Net_meet_29 1 rfl ?_
  refine wn_get_Chn d_Net_meet_31 ((hR.ci (2 * l + 1) hj16 hjs).1) 4 (by decide) wF_Net_248 rfl ?_
  refine wp_toI (z := (nI (cExp (sCh s (2 * l + 1))))) ((hR.ci (2 * l + 1) hj16 hjs).2.2.2.2.2.2.2.2.1) ?_
  refine wp_isub d_Net_meet_34 ?_
  refine wp_sipush (v := nI 999) d_Net_meet_35 (by decide) ?_
  refine wp_callVF (r := 0) d_Net_meet_38 (link_SF (av := [.int ((nI se) - (nI (cExp (sCh s (2 * l + 1))))), .int (nI 999)]) (rest := []) d_Net_meet_38 cal_Math_floorMod wM_Net_280 rfl) cal_Math_floorMod (c_Math_floorMod hse hex) (Nat.le_of_ble_eq_true rfl) ⟨Nat.le_of_ble_eq_true rfl, Nat.le_of_ble_eq_true rfl⟩ ?_
  refine wp_istore (lv' := [(7, .int (nI ((se + 999 - cExp (sCh s (2 * l + 1))) % 999))), (6, .ref (Γ 7 (2 * l + (1 - 1)))), (5, .ref (Γ 7 (2 * l + 1))), (4, .ref (Γ 6 l)), (0, .ref (Γ 0 0)), (1, .ref fa), (2, .int (nI l)), (3, .int (nI 1))]) d_Net_meet_41 (by decide) rfl ?_
  refine wp_iload d_Net_meet_43 0 rfl ?_
  refine wp_if_neN (tgt := 111) d_Net_meet_45 (by decide) (by omega) (fun c45 => ?_) (fun c45 => ?_)
  · omega
  · refine wp_aload d_Net_meet_48 2 rfl ?_
    refine wp_aload_n d_Net_meet_50 rfl 5 rfl ?_
    refine wn_get_Frm d_Net_meet_51 (kfa) 0 (by decide) wF_Net_171 rfl ?_
    refine wp_toI (z := (nI se)) (f32) ?_
    refine wp_callV (r := 1) d_Net_meet_54 (link_S (av := [.int (nI se)]) (rest := [.ref (Γ 7 (2 * l + 1))]) d_Net_meet_54 cal_Net_serialBehind wM_Net_286 rfl) cal_Net_serialBehind (c_Net_serialBehind (x := se) (by omega)) (Nat.le_of_ble_eq_true rfl) ⟨Nat.le_of_ble_eq_true rfl, Nat.le_of_ble_eq_true rfl⟩ ?_
    refine wn_put_Chn (ty := t_Chn 4) (I' := u2 I 11 (Γ 7 (2 * l + 1)) (nI (se % 999 + 1))) (R' := R) (L' := L) d_Net_meet_57 ((hR.ci (2 * l + 1) hj16 hjs).1) 4 (by decide) wF_Net_248 rfl (t_Chn_ok 4 (by decide)) rfl rfl sF_11 (oI _ _ _ 11 _) ?_
    have hR1 : RepN Γ ρ K N (u2 I 11 (Γ 7 (2 * l + 1)) (nI (se % 999 + 1))) R L E El Er (ch1 s (2 * l + 1) (wExp (sCh s (2 * l + 1)) (cExp (sCh s (2 * l + 1)) % 999 + 1))) := hR.num hj16 hjs (Or.inl ⟨rfl, rfl, by rw [hsx]; rfl, rfl⟩)
    refine wp_aload d_Net_meet_60 1 rfl ?_
    refine wp_aload_n d_Net_meet_62 rfl 5 rfl ?_
    refine wn_get_Frm d_Net_meet_63 (kfa) 0 (by decide) wF_Net_171 rfl ?_
    refine wp_toI (z := (nI se)) (by rw [u2_ne _ _ (by decide)]; exact f32) ?_
    refine wp_callEU (k' := 1) (n' := 3) (r := 0) d_Net_meet_66 (link_V (as := [.int (nI se)]) (rest := []) (r := (R_Chn, T_Chn, 7)) d_Net_meet_66 cal_Chn_putAcknowledgement wM_Net_289 rfl (hN_o ((hR.ci (2 * l + (1 - 1)) hk16 hks).1) (by decide)) rfl) cal_Chn_putAcknowledgement (c_Chn_putAcknowledgement hR1 hk16 hks) (Nat.le_of_ble_eq_true rfl) ⟨Nat.le_of_ble_eq_true rfl, Nat.le_of_ble_eq_true rfl⟩ (fun h' q66 => ?_)
    obtain ⟨ρ2, K2, N2, I2, R2, L2, E2, El2, Er2, rfl, hR2, kp2⟩ := q66
    have kq0 := kp2 qa (by omega)
    have kf0 := kp2 fa (by omega)
    rw [← hs2] at hR2
    refine wp_iload_n d_Net_meet_69 rfl 7 rfl ?_
    refine wp_if_neN (tgt := 81) d_Net_meet_70 (by decide) (by omega) (fun _ => ?_) (fun c => absurd c (by decide))
    refine wp_aload d_Net_meet_81 3 rfl ?_
    refine wn_get_Lin d_Net_meet_83 (((hR2.li l hl).2 _ _ _ hv2).2.1) 0 (by decide) wF_Net_187 rfl ?_
    refine wp_toI (z := (nI a)) (((hR2.li l hl).2 _ _ _ hv2).2.2.2.1) ?_
    refine wp_istore (lv' := [(8, .int (nI a)), (7, .int (nI ((se + 999 - cExp (sCh s (2 * l + 1))) % 999))), (6, .ref (Γ 7 (2 * l + (1 - 1)))), (5, .ref (Γ 7 (2 * l + 1))), (4, .ref (Γ 6 l)), (0, .ref (Γ 0 0)), (1, .ref fa), (2, .int (nI l)), (3, .int (nI 1))]) d_Net_meet_86 (by decide) rfl ?_
    refine wp_aload_n d_Net_meet_88 rfl 5 rfl ?_
    refine wp_iload d_Net_meet_89 0 rfl ?_
    refine wp_aload_n d_Net_meet_91 rfl 6 rfl ?_
    refine wn_get_Frm d_Net_meet_92 ((kf0.1).trans kfa) 1 (by decide) wF_Net_158 rfl ?_
    refine wp_toVR (o := some qa) (z := .ref qa) ((kf0.2.2.1).trans f33) rfl ?_
    refine wn_get_Cpy d_Net_meet_95 ((kq0.1).trans kqa) 0 (by decide) wF_Net_292 rfl ?_
    refine wp_toVR (o := some (Γ 14 (j + 1))) (z := .ref (Γ 14 (j + 1))) ((kq0.2.1).trans q14) rfl ?_
    refine wp_aload_n d_Net_meet_98 rfl 6 rfl ?_
    refine wn_get_Frm d_Net_meet_99 ((kf0.1).trans kfa) 1 (by decide) wF_Net_158 rfl ?_
    refine wp_toVR (o := some qa) (z := .ref qa) ((kf0.2.2.1).trans f33) rfl ?_
    refine wn_get_Cpy d_Net_meet_102 ((kq0.1).trans kqa) 1 (by decide) wF_Net_298 rfl ?_
    refine wp_toI (z := (nI set)) ((kq0.2.2.2.1).trans (by rw [u2_ne _ _ (by decide)]; exact q15)) ?_
    refine wp_iload_n d_Net_meet_105 rfl 7 rfl ?_
    refine wp_callEU (k' := (pc7 set)) (n' := (4 * pc7 set)) (r := 0) d_Net_meet_106 (link_V (as := [.int (nI a), .ref (Γ 14 (j + 1)), .int (nI set), .int (nI l)]) (rest := []) (r := (R_Net, T_Net, 7)) d_Net_meet_106 cal_Net_comeTo wM_Net_123 rfl (hN_o (hR2.nt.1) (by decide)) rfl) cal_Net_comeTo (c_Net_comeTo (by1 := l + 1) hR2 hm2 hCI (hCS a) he6 hset (by omega) hp2) (Nat.le_of_ble_eq_true rfl) ⟨Nat.le_of_ble_eq_true rfl, Nat.le_of_ble_eq_true rfl⟩ (fun h' q106 => ?_)
    refine wp_iconst (v := nI 1) d_Net_meet_109 (by decide) ?_
    exact wp_iret d_Net_meet_110 rfl ⟨rfl, NetK.tr ((Kp_u (by decide)).tr kp2) q106⟩
end Cls24
