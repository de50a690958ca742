section Cls25
theorem mono_E {G : Gt} {y : Mi} {d w d' w' k n k' n' : Nat} {av : List Value} {h : AHp} {v : Option Value} {P : AHp → Prop} (hc : CallE G y d w av h k n v P) (hd : d ≤ d') (hw : w ≤ w') (hk : k ≤ k') (hn : n ≤ n') : CallE G y d' w' av h k' n' v P := CallS.mono hc hd hw hk hn (fun _ _ z => z)
theorem pc7_le (x : Nat) : pc7 x ≤ 7 := by
  unfold pc7
  exact Nat.le_trans (List.length_filter_le _ _) (by simp)
theorem t_Net_meet {G : Gt} {K N : Nat → Nat} {I : Nat → Nat → Int32} {R : Nat → Nat → Option Nat} {L : Nat → Nat → Int64} {E : Nat → Nat → Int32} {El : Nat → Nat → Int64} {Er : Nat → Nat → Option Nat} {Γ : Gm} {ρ : Nat → Nat} {s : Sa} (hR : RepN Γ ρ K N I R L E El Er s) {n0 : Nat} (hV : Inv n0 s) {l a b c fa se : Nat} (hl : l < 8) (hv : sLn s l = some (a, b, true)) (hc : c < 2) (kfa : K fa = 6 + 1) (hf : fr1 Γ K I R (cSent (sCh s (2 * l + c))) fa (0, se)) (hse : 1 ≤ se ∧ se ≤ (cSent (sCh s (2 * l + c))).length) : CallE G m_Net_meet 7 95 [.ref (Γ 0 0), .ref fa, .int (nI l), .int (nI c)] (hN K N I R L E El Er) 8 31 (some (.int (nI (meetS s l (2 * l + c) (2 * l + (1 - c)) se).1))) (NetK Γ (meetS s l (2 * l + c) (2 * l + (1 - c)) se).2 K I R) := by
  obtain ⟨qa, x, f33, e2, kqa, q14, q15⟩ := hf.2.1 rfl
  have f32 : I 32 fa = nI se := hf.1
  have hgx : (cSent (sCh s (2 * l + c))).getD (se - 1) (0, 0) = x := by rw [List.getD_eq_getElem?_getD, show (cSent (sCh s (2 * l + c)))[se - 1]? = some x from e2]; rfl
  have hb := hV.bCh (2 * l + c)
  have ok := hV.2.2.1.2.2.2.1 (2 * l + c)
  have hn5 := hV.1
  have hxo := (ok.2.2.2.1 x (List.mem_of_getElem? e2)).1
  obtain ⟨j, hj⟩ : ∃ j, x.1 = j + 1 := ⟨x.1 - 1, by have := hxo.1; omega⟩
  rw [hj] at q14
  obtain ⟨m, hm⟩ := get_of (l := sMs s) (i := j) (by have := hxo.2.1; omega)
  have hsl := ok.2.2.1
  have he1 := ok.2.2.2.2.1
  have he2 := ok.2.2.2.2.2.1
  have hex : 1 ≤ cExp (sCh s (2 * l + c)) ∧ cExp (sCh s (2 * l + c)) ≤ 999 := ⟨he1, by omega⟩
  have hse9 : 1 ≤ se ∧ se ≤ 999 := ⟨hse.1, by omega⟩
  have hmn := hV.2.1.1
  have hm30 : sMin s < 2 ^ 30 := by omega
  unfold meetS
  dsimp only
  by_cases h0 : (se + 999 - cExp (sCh s (2 * l + c))) % 999 = 0
  · rw [if_pos h0, hgx, hj]
    have hat := acc_at hV hse h0
    have hsv : serves s l = true := by unfold serves; rw [hv]
    have hB := (acc_B (k := 2 * l + (1 - c)) hV (show 2 * l + c < 16 by omega) (by omega) (by omega) (by rw [show (2 * l + c) / 2 = l by omega]; exact hsv) (by rw [show (2 * l + (1 - c)) / 2 = l by omega]; exact hsv) hse h0).1
    have hset : x.2 < 2 ^ 7 := Nat.lt_of_lt_of_le hxo.2.2 (Nat.pow_le_pow_right (by decide) (cnt_7 hV.B.CI.2.2.1 _))
    have hab := (hV.2.1.2.2.2.1 l a b true hv)
    have hp5 : prioOf s (j + 1) < 5 := by rw [mg_at hR hm]; exact (hV.ms (List.mem_of_getElem? hm)).1
    have h7 := pc7_le x.2
    obtain ⟨s2, hs2⟩ : ∃ s2 : Sa, s2 = accS s (2 * l + c) (2 * l + (1 - c)) se := ⟨_, rfl⟩
    rw [← hs2] at hB
    have hm2 : (sMs s2)[j]? = some m := by rw [hs2]; exact hm
    have hv2 : sLn s2 l = some (a, b, true) := by rw [hs2]; exact hv
    have hp2 : prioOf s2 (j + 1) < 5 := by rw [hs2]; exact hp5
    have hs3 : s2 = ch1 (ch1 s (2 * l + c) (wExp (sCh s (2 * l + c)) (cExp (sCh s (2 * l + c)) % 999 + 1))) (2 * l + (1 - c)) (layC (sCh (ch1 s (2 * l + c) (wExp (sCh s (2 * l + c)) (cExp (sCh s (2 * l + c)) % 999 + 1))) (2 * l + (1 - c))) (1, se)) := hs2
    rw [← hs3, endOf_eq hv2]
    rcases (show c = 0 ∨ c = 1 by omega) with rfl | rfl
    · rw [show ((2 * l + 0) % 2 == 1) = false from beq_eq_false_iff_ne.mpr (by omega), if_neg (by decide)]
      exact mono_E (c_Net_meet10 hR hR hl hv kfa f32 f33 kqa q14 q15 hse9 hex (by rw [hat]) hab.2.2.1 hset hs3 hm2 hv2 hp2 hB.CI (fun y => hB.CS y) h0) (by decide) (by decide) (by omega) (by omega)
    · rw [show ((2 * l + 1) % 2 == 1) = true from beq_iff_eq.mpr (by omega), if_pos rfl]
      exact mono_E (c_Net_meet11 hR hR hl hv kfa f32 f33 kqa q14 q15 hse9 hex (by rw [hat]) hab.2.1 hset hs3 hm2 hv2 hp2 hB.CI (fun y => hB.CS y) h0) (by decide) (by decide) (by omega) (by omega)
  · rw [if_neg h0]
    by_cases h4 : (se + 999 - cExp (sCh s (2 * l + c))) % 999 ≤ 400
    · rw [if_pos h4]
      have hne : 2 * l + (1 - c) ≠ 2 * l + c := by omega
      cases ha : cAsk (sCh s (2 * l + c)) with
      | none =>
        dsimp only
        rw [ch1_ne hne]
        exact mono_E (c_Net_meet22 hR hR hl hv hc kfa f32 f33 kqa q14 q15 hse9 hex ha hm30 h4 (by omega)) (by decide) (by decide) (by omega) (by omega)
      | some t =>
        have htm := ok.2.2.2.2.2.2.2.2.2.1 t ha
        dsimp only
        by_cases hlt : sMin s < t + 3
        · rw [if_pos hlt]
          exact mono_E (c_Net_meet20 hR hR hl hv hc kfa f32 f33 kqa q14 q15 hse9 hex ha htm hlt hm30 h4 (by omega)) (by decide) (by decide) (by omega) (by omega)
        · rw [if_neg hlt, ch1_ne hne]
          exact mono_E (c_Net_meet21 hR hR hl hv hc kfa f32 f33 kqa q14 q15 hse9 hex ha htm hlt hm30 h4 (by omega)) (by decide) (by decide) (by omega) (by omega)
    · rw [if_neg h4]
      exact mono_E (c_Net_meet3 hR hR hl hv hc kfa f32 f33 kqa q14 q15 hse9 hex (by omega)) (by decide) (by decide) (by omega) (by omega)
set_option maxRecDepth 20000 in
theorem c_Net_carryLX {G : Gt} {K N : Nat → Nat} {I : Nat → Nat → Int32} {R : Nat → Nat → Option Nat} {L : Nat → Nat → Int64} {E : Nat → Nat → Int32} {El : Nat → Nat → Int64} {Er : Nat → Nat → Option Nat} {Γ : Gm} {ρ : Nat → Nat} {s : Sa} (hR : RepN Γ ρ K N I R L E El Er s) {x c : Int32} (hx : hasB (lnB s) x = false) : CallT G m_Net_carry 7 95 [.ref (Γ 0 0), .int x, .int c] (hN K N I R L E El Er) 1 6 0 (fun h' => h' = (hN K N I R L E El Er)) := by
  refine CallS.of (Nat.le_of_ble_eq_true rfl) ?_
  refine wp_aload_n d_Net_carry_0 rfl 0 rfl ?_
  refine wp_iload_n d_Net_carry_1 rfl 1 rfl ?_
  exact wp_callT (k' := 1) (n' := 6) (r := 0) d_Net_carry_2 (link_V (as := [.int x]) (rest := []) (r := (R_Net, T_Net, 7)) d_Net_carry_2 cal_Net_lineAt wM_Net_127 rfl (hN_o (hR.nt.1) (by decide)) rfl) cal_Net_lineAt rfl (c_Net_lineAtX hR hx) (Nat.le_of_ble_eq_true rfl) ⟨Nat.le_of_ble_eq_true rfl, Nat.le_of_ble_eq_true rfl⟩ (fun h' q => ⟨rfl, q⟩)
set_option maxRecDepth 20000 in
theorem c_Net_carryCX {G : Gt} {K N : Nat → Nat} {I : Nat → Nat → Int32} {R : Nat → Nat → Option Nat} {L : Nat → Nat → Int64} {E : Nat → Nat → Int32} {El : Nat → Nat → Int64} {Er : Nat → Nat → Option Nat} {Γ : Gm} {ρ : Nat → Nat} {s : Sa} (hR : RepN Γ ρ K N I R L E El Er s) {l a b : Nat} {v : Bool} (hl : l < 8) (hv : sLn s l = some (a, b, v)) {c : Int32} (hx : inZ c (nI 0) (nI 1) = false) : CallT G m_Net_carry 7 95 [.ref (Γ 0 0), .int (nI l), .int c] (hN K N I R L E El Er) 1 6 0 (fun h' => h' = (hN K N I R L E El Er)) := by
  refine CallS.of (Nat.le_of_ble_eq_true rfl) ?_
  refine wp_aload_n d_Net_carry_0 rfl 0 rfl ?_
  refine wp_iload_n d_Net_carry_1 rfl 1 rfl ?_
  refine wp_callV (r := 0) d_Net_carry_2 (link_V (as := [.int (nI l)]) (rest := []) (r := (R_Net, T_Net, 7)) d_Net_carry_2 cal_Net_lineAt wM_Net_127 rfl (hN_o (hR.nt.1) (by decide)) rfl) cal_Net_lineAt (c_Net_lineAt hR hl hv) (Nat.le_of_ble_eq_true rfl) ⟨Nat.le_of_ble_eq_true rfl, Nat.le_of_ble_eq_true rfl⟩ ?_
  refine wp_astore_n (lv' := [(3, .ref (Γ 6 l)), (0, .ref (Γ 0 0)), (1, .int (nI l)), (2, .int c)]) d_Net_carry_5 rfl (by decide) rfl ?_
  refine wp_aload_n d_Net_carry_6 rfl 0 rfl ?_
  refine wp_iload_n d_Net_carry_7 rfl 3 rfl ?_
  exact wp_callT (k' := 1) (n' := 6) (r := 0) d_Net_carry_8 (link_V (as := [.int c]) (rest := []) (r := (R_Lin, T_Lin, 5)) d_Net_carry_8 cal_Lin_channelAt wM_Net_131 rfl (hN_o (((hR.li l hl).2 _ _ _ hv).2.1) (by decide)) rfl) cal_Lin_channelAt rfl (c_Lin_channelAtX hx) (Nat.le_of_ble_eq_true rfl) ⟨Nat.le_of_ble_eq_true rfl, Nat.le_of_ble_eq_true rfl⟩ (fun h' q => ⟨rfl, q⟩)
set_option maxRecDepth 20000 in
theorem c_Net_carry0 {G : Gt} {K N : Nat → Nat} {I : Nat → Nat → Int32} {R : Nat → Nat → Option Nat} {L : Nat → Nat → Int64} {E : Nat → Nat → Int32} {El : Nat → Nat → Int64} {Er : Nat → Nat → Option Nat} {Γ : Gm} {ρ : Nat → Nat} {s : Sa} (hR : RepN Γ ρ K N I R L E El Er s) {l a b : Nat} {v : Bool} (hl : l < 8) (hv : sLn s l = some (a, b, v)) {c : Nat} (hc : c < 2) (hw : cWire (sCh s (2 * l + c)) = []) : CallR G m_Net_carry 7 95 [.ref (Γ 0 0), .int (nI l), .int (nI c)] (hN K N I R L E El Er) 0 0 (some (.int (nI 0))) (hN K N I R L E El Er) := by
  have hj16 : 2 * l + c < 16 := by omega
  have hjs : (sLn s ((2 * l + c) / 2)).isSome = true := by rw [show (2 * l + c) / 2 = l by omega, hv]; rfl
  have hk16 : 2 * l + (1 - c) < 16 := by omega
  have hks : (sLn s ((2 * l + (1 - c)) / 2)).isSome = true := by rw [show (2 * l + (1 - c)) / 2 = l by omega, hv]; rfl
  have hot : otC (2 * l + (1 - c)) = 2 * l + c := by unfold otC; omega
  have hat := RgF.take0 (G := G) (L := L) (E := E) (El := El) (show RgF Γ K N I R Er (Γ 12 (2 * l + c)) (Γ 13 (2 * l + c)) 200 (cSent (sCh s (2 * l + c))) [] by rw [← hw]; exact (hR.ri (2 * l + c) hj16 hjs).2.2.2.2.2)
  refine CallS.of (Nat.le_of_ble_eq_true rfl) ?_
  refine wp_aload_n d_Net_carry_0 rfl 0 rfl ?_
  refine wp_iload_n d_Net_carry_1 rfl 1 rfl ?_
  refine wp_callV (r := 0) d_Net_carry_2 (link_V (as := [.int (nI l)]) (rest := []) (r := (R_Net, T_Net, 7)) d_Net_carry_2 cal_Net_lineAt wM_Net_127 rfl (hN_o (hR.nt.1) (by decide)) rfl) cal_Net_lineAt (c_Net_lineAt hR hl hv) (Nat.le_of_ble_eq_true rfl) ⟨Nat.le_of_ble_eq_true rfl, Nat.le_of_ble_eq_true rfl⟩ ?_
  refine wp_astore_n (lv' := [(3, .ref (Γ 6 l)), (0, .ref (Γ 0 0)), (1, .int (nI l)), (2, .int (nI c))]) d_Net_carry_5 rfl (by decide) rfl ?_
  refine wp_aload_n d_Net_carry_6 rfl 0 rfl ?_
  refine wp_iload_n d_Net_carry_7 rfl 3 rfl ?_
  refine wp_callV (r := 0) d_Net_carry_8 (link_V (as := [.int (nI c)]) (rest := []) (r := (R_Lin, T_Lin, 5)) d_Net_carry_8 cal_Lin_channelAt wM_Net_131 rfl (hN_o (((hR.li l hl).2 _ _ _ hv).2.1) (by decide)) rfl) cal_Lin_channelAt (c_Lin_channelAt hR hl hv (by omega)) (Nat.le_of_ble_eq_true rfl) ⟨Nat.le_of_ble_eq_true rfl, Nat.le_of_ble_eq_true rfl⟩ ?_
  refine wp_astore (lv' := [(4, .ref (Γ 7 (2 * l + c))), (3, .ref (Γ 6 l)), (0, .ref (Γ 0 0)), (1, .int (nI l)), (2, .int (nI c))]) d_Net_carry_11 (by decide) rfl ?_
  refine wp_aload_n d_Net_carry_13 rfl 1 rfl ?_
  refine wp_iconst (v := nI 1) d_Net_carry_14 (by decide) ?_
  refine wp_iload_n d_Net_carry_15 rfl 4 rfl ?_
  refine wp_isubN d_Net_carry_16 (by omega) ?_
  refine wp_callV (r := 0) d_Net_carry_17 (link_V (as := [.int (nI (1 - c))]) (rest := []) (r := (R_Lin, T_Lin, 5)) d_Net_carry_17 cal_Lin_channelAt wM_Net_131 rfl (hN_o (((hR.li l hl).2 _ _ _ hv).2.1) (by decide)) rfl) cal_Lin_channelAt (c_Lin_channelAt hR hl hv (by omega)) (Nat.le_of_ble_eq_true rfl) ⟨Nat.le_of_ble_eq_true rfl, Nat.le_of_ble_eq_true rfl⟩ ?_
  refine wp_astore (lv' := [(5, .ref (Γ 7 (2 * l + (1 - c)))), (4, .ref (Γ 7 (2 * l + c))), (3, .ref (Γ 6 l)), (0, .ref (Γ 0 0)), (1, .int (nI l)), (2, .int (nI c))]) d_Net_carry_20 (by decide) rfl ?_
  refine wp_aload d_Net_carry_22 1 rfl ?_
  refine wn_get_Chn d_Net_carry_24 ((hR.ci (2 * l + c) hj16 hjs).1) 2 (by decide) wF_Net_148 rfl ?_
  refine wp_toVR (o := some (Γ 12 (2 * l + c))) (z := .ref (Γ 12 (2 * l + c))) ((hR.ci (2 * l + c) hj16 hjs).2.2.2.2.1) rfl ?_
  refine wp_callV (r := 0) d_Net_carry_27 (link_V (as := []) (rest := []) (r := (R_Frs, T_Frs, 3)) d_Net_carry_27 cal_Frs_takeFirst wM_Net_152 rfl (hN_o ((rg_n (hR.ri (2 * l + c) hj16 hjs).2.2.2.2.2).1) (by decide)) rfl) cal_Frs_takeFirst (hat) (Nat.le_of_ble_eq_true rfl) ⟨Nat.le_of_ble_eq_true rfl, Nat.le_of_ble_eq_true rfl⟩ ?_
  refine wp_astoreN (lv' := [(6, .null), (5, .ref (Γ 7 (2 * l + (1 - c)))), (4, .ref (Γ 7 (2 * l + c))), (3, .ref (Γ 6 l)), (0, .ref (Γ 0 0)), (1, .int (nI l)), (2, .int (nI c))]) d_Net_carry_30 (by decide) rfl ?_
  refine wp_aloadN d_Net_carry_32 0 rfl ?_
  refine wp_ifnonnullN d_Net_carry_34 ?_
  refine wp_iconst (v := nI 0) d_Net_carry_37 (by decide) ?_
  exact wp_iret d_Net_carry_38 rfl ⟨rfl, rfl⟩
set_option maxRecDepth 20000 in
theorem c_Net_carry1 {G : Gt} {K N : Nat → Nat} {I : Nat → Nat → Int32} {R : Nat → Nat → Option Nat} {L : Nat → Nat → Int64} {E : Nat → Nat → Int32} {El : Nat → Nat → Int64} {Er : Nat → Nat → Option Nat} {Γ : Gm} {ρ : Nat → Nat} {s : Sa} (hR : RepN Γ ρ K N I R L E El Er s) {l a b : Nat} {v : Bool} (hl : l < 8) (hv : sLn s l = some (a, b, v)) {c : Nat} (hc : c < 2) {kd se : Nat} {ws : List (Nat × Nat)} (hw : cWire (sCh s (2 * l + c)) = (kd, se) :: ws) (hkd : kd = 0) {v : Int32} {Pq : AHp → Prop} (hcall : ∀ (I1 : Nat → Nat → Int32) (fa : Nat), K fa = 6 + 1 → RepN Γ ρ K N I1 R L E El Er (ch1 s (2 * l + c) (wWire (sCh s (2 * l + c)) ws)) → fr1 Γ K I1 R (cSent (sCh s (2 * l + c))) fa (kd, se) → CallE G m_Net_meet 7 95 [.ref (Γ 0 0), .ref fa, .int (nI l), .int (nI c)] (hN K N I1 R L E El Er) 8 31 (some (.int v)) Pq) : CallE G m_Net_carry 8 115 [.ref (Γ 0 0), .int (nI l), .int (nI c)] (hN K N I R L E El Er) 8 31 (some (.int v)) Pq := by
  have hj16 : 2 * l + c < 16 := by omega
  have hjs : (sLn s ((2 * l + c) / 2)).isSome = true := by rw [show (2 * l + c) / 2 = l by omega, hv]; rfl
  have hk16 : 2 * l + (1 - c) < 16 := by omega
  have hks : (sLn s ((2 * l + (1 - c)) / 2)).isSome = true := by rw [show (2 * l + (1 - c)) / 2 = l by omega, hv]; rfl
  have hot : otC (2 * l + (1 - c)) = 2 * l + c := by unfold otC; omega
  obtain ⟨fa, kfa, ff, hat⟩ := RgF.take (G := G) (L := L) (E := E) (El := El) (show RgF Γ K N I R Er (Γ 12 (2 * l + c)) (Γ 13 (2 * l + c)) 200 (cSent (sCh s (2 * l + c))) ((kd, se) :: ws) by rw [← hw]; exact (hR.ri (2 * l + c) hj16 hjs).2.2.2.2.2)
  refine CallS.of (Nat.le_of_ble_eq_true rfl) ?_
  refine wp_aload_n d_Net_carry_0 rfl 0 rfl ?_
  refine wp_iload_n d_Net_carry_1 rfl 1 rfl ?_
  refine wp_callV (r := 0) d_Net_carry_2 (link_V (as := [.int (nI l)]) (rest := []) (r := (R_Net, T_Net, 7)) d_Net_carry_2 cal_Net_lineAt wM_Net_127 rfl (hN_o (hR.nt.1) (by decide)) rfl) cal_Net_lineAt (c_Net_lineAt hR hl hv) (Nat.le_of_ble_eq_true rfl) ⟨Nat.le_of_ble_eq_true rfl, Nat.le_of_ble_eq_true rfl⟩ ?_
  refine wp_astore_n (lv' := [(3, .ref (Γ 6 l)), (0, .ref (Γ 0 0)), (1, .int (nI l)), (2, .int (nI c))]) d_Net_carry_5 rfl (by decide) rfl ?_
  refine wp_aload_n d_Net_carry_6 rfl 0 rfl ?_
  refine wp_iload_n d_Net_carry_7 rfl 3 rfl ?_
  refine wp_callV (r := 0) d_Net_carry_8 (link_V (as := [.int (nI c)]) (rest := []) (r := (R_Lin, T_Lin, 5)) d_Net_carry_8 cal_Lin_channelAt wM_Net_131 rfl (hN_o (((hR.li l hl).2 _ _ _ hv).2.1) (by decide)) rfl) cal_Lin_channelAt (c_Lin_channelAt hR hl hv (by omega)) (Nat.le_of_ble_eq_true rfl) ⟨Nat.le_of_ble_eq_true rfl, Nat.le_of_ble_eq_true rfl⟩ ?_
  refine wp_astore (lv' := [(4, .ref (Γ 7 (2 * l + c))), (3, .ref (Γ 6 l)), (0, .ref (Γ 0 0)), (1, .int (nI l)), (2, .int (nI c))]) d_Net_carry_11 (by decide) rfl ?_
  refine wp_aload_n d_Net_carry_13 rfl 1 rfl ?_
  refine wp_iconst (v := nI 1) d_Net_carry_14 (by decide) ?_
  refine wp_iload_n d_Net_carry_15 rfl 4 rfl ?_
  refine wp_isubN d_Net_carry_16 (by omega) ?_
  refine wp_callV (r := 0) d_Net_carry_17 (link_V (as := [.int (nI (1 - c))]) (rest := []) (r := (R_Lin, T_Lin, 5)) d_Net_carry_17 cal_Lin_channelAt wM_Net_131 rfl (hN_o (((hR.li l hl).2 _ _ _ hv).2.1) (by decide)) rfl) cal_Lin_channelAt (c_Lin_channelAt hR hl hv (by omega)) (Nat.le_of_ble_eq_true rfl) ⟨Nat.le_of_ble_eq_true rfl, Nat.le_of_ble_eq_true rfl⟩ ?_
  refine wp_astore (lv' := [(5, .ref (Γ 7 (2 * l + (1 - c)))), (4, .ref (Γ 7 (2 * l + c))), (3, .ref (Γ 6 l)), (0, .ref (Γ 0 0)), (1, .int (nI l)), (2, .int (nI c))]) d_Net_carry_20 (by decide) rfl ?_
  refine wp_aload d_Net_carry_22 1 rfl ?_
  refine wn_get_Chn d_Net_carry_24 ((hR.ci (2 * l + c) hj16 hjs).1) 2 (by decide) wF_Net_148 rfl ?_
  refine wp_toVR (o := some (Γ 12 (2 * l + c))) (z := .ref (Γ 12 (2 * l + c))) ((hR.ci (2 * l + c) hj16 hjs).2.2.2.2.1) rfl ?_
  refine wp_callEV (k' := 0) (n' := 0) (r := 0) d_Net_carry_27 (link_V (as := []) (rest := []) (r := (R_Frs, T_Frs, 3)) d_Net_carry_27 cal_Frs_takeFirst wM_Net_152 rfl (hN_o ((rg_n (hR.ri (2 * l + c) hj16 hjs).2.2.2.2.2).1) (by decide)) rfl) cal_Frs_takeFirst (hat) (Nat.le_of_ble_eq_true rfl) ⟨Nat.le_of_ble_eq_true rfl, Nat.le_of_ble_eq_true rfl⟩ (fun h' q27 => ?_)
  obtain ⟨I1, rfl, f1, f2⟩ := q27
  have hR1 := hR.wire hj16 hjs f1 fE_refl f2
  have ff1 := ff.o f1
  refine wp_astore (lv' := [(6, .ref fa), (5, .ref (Γ 7 (2 * l + (1 - c)))), (4, .ref (Γ 7 (2 * l + c))), (3, .ref (Γ 6 l)), (0, .ref (Γ 0 0)), (1, .int (nI l)), (2, .int (nI c))]) d_Net_carry_30 (by decide) rfl ?_
  refine wp_aload d_Net_carry_32 0 rfl ?_
  refine wp_ifnonnull (tgt := 39) d_Net_carry_34 (by decide) ?_
  obtain ⟨qc, xc, hqc, -⟩ := ff1.2.1 hkd
  refine wp_aload d_Net_carry_39 0 rfl ?_
  refine wn_get_Frm d_Net_carry_41 (kfa) 1 (by decide) wF_Net_158 rfl ?_
  refine wp_toVR (o := some qc) (z := .ref qc) (hqc) rfl ?_
  refine wp_ifnull d_Net_carry_44 ?_
  refine wp_aload_n d_Net_carry_47 rfl 4 rfl ?_
  refine wp_aload d_Net_carry_48 0 rfl ?_
  refine wp_iload_n d_Net_carry_50 rfl 5 rfl ?_
  refine wp_iload_n d_Net_carry_51 rfl 6 rfl ?_
  refine wp_callEV (k' := 8) (n' := 31) (r := 0) d_Net_carry_52 (link_V (as := [.ref fa, .int (nI l), .int (nI c)]) (rest := []) (r := (R_Net, T_Net, 7)) d_Net_carry_52 cal_Net_meet wM_Net_164 rfl (hN_o (hR.nt.1) (by decide)) rfl) cal_Net_meet (hcall I1 fa kfa hR1 ff1) (Nat.le_of_ble_eq_true rfl) ⟨Nat.le_of_ble_eq_true rfl, Nat.le_of_ble_eq_true rfl⟩ (fun h' q52 => ?_)
  exact wp_iret d_Net_carry_55 rfl ⟨rfl, q52⟩
set_option maxRecDepth 20000 in
theorem c_Net_carry2 {G : Gt} {K N : Nat → Nat} {I : Nat → Nat → Int32} {R : Nat → Nat → Option Nat} {L : Nat → Nat → Int64} {E : Nat → Nat → Int32} {El : Nat → Nat → Int64} {Er : Nat → Nat → Option Nat} {Γ : Gm} {ρ : Nat → Nat} {s : Sa} (hR : RepN Γ ρ K N I R L E El Er s) {l a b : Nat} {v : Bool} (hl : l < 8) (hv : sLn s l = some (a, b, v)) {c : Nat} (hc : c < 2) {kd se : Nat} {ws : List (Nat × Nat)} (hw : cWire (sCh s (2 * l + c)) = (kd, se) :: ws) (hkd : kd = 2) {Pq : AHp → Prop} (hcall : ∀ (I1 : Nat → Nat → Int32) (fa : Nat), K fa = 6 + 1 → RepN Γ ρ K N I1 R L E El Er (ch1 s (2 * l + c) (wWire (sCh s (2 * l + c)) ws)) → fr1 Γ K I1 R (cSent (sCh s (2 * l + c))) fa (kd, se) → CallE G m_Chn_sendAgainFrom 3 43 [.ref (Γ 7 (2 * l + (1 - c))), .int (nI se), .int (nI (sMin s))] (hN K N I1 R L E El Er) 0 0 none Pq) : CallE G m_Net_carry 7 95 [.ref (Γ 0 0), .int (nI l), .int (nI c)] (hN K N I R L E El Er) 0 0 (some (.int (nI 5))) Pq := by
  have hj16 : 2 * l + c < 16 := by omega
  have hjs : (sLn s ((2 * l + c) / 2)).isSome = true := by rw [show (2 * l + c) / 2 = l by omega, hv]; rfl
  have hk16 : 2 * l + (1 - c) < 16 := by omega
  have hks : (sLn s ((2 * l + (1 - c)) / 2)).isSome = true := by rw [show (2 * l + (1 - c)) / 2 = l by omega, hv]; rfl
  have hot : otC (2 * l + (1 - c)) = 2 * l + c := by unfold otC; omega
  obtain ⟨fa, kfa, ff, hat⟩ := RgF.take (G := G) (L := L) (E := E) (El := El) (show RgF Γ K N I R Er (Γ 12 (2 * l + c)) (Γ 13 (2 * l + c)) 200 (cSent (sCh s (2 * l + c))) ((kd, se) :: ws) by rw [← hw]; exact (hR.ri (2 * l + c) hj16 hjs).2.2.2.2.2)
  refine CallS.of (Nat.le_of_ble_eq_true rfl) ?_
  refine wp_aload_n d_Net_carry_0 rfl 0 rfl ?_
  refine wp_iload_n d_Net_carry_1 rfl 1 rfl ?_
  refine wp_callV (r := 0) d_Net_carry_2 (link_V (as := [.int (nI l)]) (rest := []) (r := (R_Net, T_Net, 7)) d_Net_carry_2 cal_Net_lineAt wM_Net_127 rfl (hN_o (hR.nt.1) (by decide)) rfl) cal_Net_lineAt (c_Net_lineAt hR hl hv) (Nat.le_of_ble_eq_true rfl) ⟨Nat.le_of_ble_eq_true rfl, Nat.le_of_ble_eq_true rfl⟩ ?_
  refine wp_astore_n (lv' := [(3, .ref (Γ 6 l)), (0, .ref (Γ 0 0)), (1, .int (nI l)), (2, .int (nI c))]) d_Net_carry_5 rfl (by decide) rfl ?_
  refine wp_aload_n d_Net_carry_6 rfl 0 rfl ?_
  refine wp_iload_n d_Net_carry_7 rfl 3 rfl ?_
  refine wp_callV (r := 0) d_Net_carry_8 (link_V (as := [.int (nI c)]) (rest := []) (r := (R_Lin, T_Lin, 5)) d_Net_carry_8 cal_Lin_channelAt wM_Net_131 rfl (hN_o (((hR.li l hl).2 _ _ _ hv).2.1) (by decide)) rfl) cal_Lin_channelAt (c_Lin_channelAt hR hl hv (by omega)) (Nat.le_of_ble_eq_true rfl) ⟨Nat.le_of_ble_eq_true rfl, Nat.le_of_ble_eq_true rfl⟩ ?_
  refine wp_astore (lv' := [(4, .ref (Γ 7 (2 * l + c))), (3, .ref (Γ 6 l)), (0, .ref (Γ 0 0)), (1, .int (nI l)), (2, .int (nI c))]) d_Net_carry_11 (by decide) rfl ?_
  refine wp_aload_n d_Net_carry_13 rfl 1 rfl ?_
  refine wp_iconst (v := nI 1) d_Net_carry_14 (by decide) ?_
  refine wp_iload_n d_Net_carry_15 rfl 4 rfl ?_
  refine wp_isubN d_Net_carry_16 (by omega) ?_
  refine wp_callV (r := 0) d_Net_carry_17 (link_V (as := [.int (nI (1 - c))]) (rest := []) (r := (R_Lin, T_Lin, 5)) d_Net_carry_17 cal_Lin_channelAt wM_Net_131 rfl (hN_o (((hR.li l hl).2 _ _ _ hv).2.1) (by decide)) rfl) cal_Lin_channelAt (c_Lin_channelAt hR hl hv (by omega)) (Nat.le_of_ble_eq_true rfl) ⟨Nat.le_of_ble_eq_true rfl, Nat.le_of_ble_eq_true rfl⟩ ?_
  refine wp_astore (lv' := [(5, .ref (Γ 7 (2 * l + (1 - c)))), (4, .ref (Γ 7 (2 * l + c))), (3, .ref (Γ 6 l)), (0, .ref (Γ 0 0)), (1, .int (nI l)), (2, .int (nI c))]) d_Net_carry_20 (by decide) rfl ?_
  refine wp_aload d_Net_carry_22 1 rfl ?_
  refine wn_get_Chn d_Net_carry_24 ((hR.ci (2 * l + c) hj16 hjs).1) 2 (by decide) wF_Net_148 rfl ?_
  refine wp_toVR (o := some (Γ 12 (2 * l + c))) (z := .ref (Γ 12 (2 * l + c))) ((hR.ci (2 * l + c) hj16 hjs).2.2.2.2.1) rfl ?_
  refine wp_callEV (k' := 0) (n' := 0) (r := 0) d_Net_carry_27 (link_V (as := []) (rest := []) (r := (R_Frs, T_Frs, 3)) d_Net_carry_27 cal_Frs_takeFirst wM_Net_152 rfl (hN_o ((rg_n (hR.ri (2 * l + c) hj16 hjs).2.2.2.2.2).1) (by decide)) rfl) cal_Frs_takeFirst (hat) (Nat.le_of_ble_eq_true rfl) ⟨Nat.le_of_ble_eq_true rfl, Nat.le_of_ble_eq_true rfl⟩ (fun h' q27 => ?_)
  obtain ⟨I1, rfl, f1, f2⟩ := q27
  have hR1 := hR.wire hj16 hjs f1 fE_refl f2
  have ff1 := ff.o f1
  refine wp_astore (lv' := [(6, .ref fa), (5, .ref (Γ 7 (2 * l + (1 - c)))), (4, .ref (Γ 7 (2 * l + c))), (3, .ref (Γ 6 l)), (0, .ref (Γ 0 0)), (1, .int (nI l)), (2, .int (nI c))]) d_Net_carry_30 (by decide) rfl ?_
  refine wp_aload d_Net_carry_32 0 rfl ?_
  refine wp_ifnonnull (tgt := 39) d_Net_carry_34 (by decide) ?_
  refine wp_aload d_Net_carry_39 0 rfl ?_
  refine wn_get_Frm d_Net_carry_41 (kfa) 1 (by decide) wF_Net_158 rfl ?_
  refine wp_toVR (o := none) (z := .null) ((ff1.2.2 (by show kd ≠ 0; omega)).1) rfl ?_
  refine wp_ifnullN (tgt := 56) d_Net_carry_44 (by decide) ?_
  refine wp_aload d_Net_carry_56 0 rfl ?_
  refine wn_get_Frm d_Net_carry_58 (kfa) 2 (by decide) wF_Net_168 rfl ?_
  refine wp_toI (z := (bI true)) ((ff1.2.2 (by show kd ≠ 0; omega)).2.trans (by show bI (kd == 2) = _; rw [hkd]; rfl)) ?_
  refine wp_if_eqB (tgt := 80) d_Net_carry_61 (by decide) (fun c => absurd c (by decide)) (fun _ => ?_)
  refine wp_aload d_Net_carry_64 1 rfl ?_
  refine wp_aload d_Net_carry_66 0 rfl ?_
  refine wn_get_Frm d_Net_carry_68 (kfa) 0 (by decide) wF_Net_171 rfl ?_
  refine wp_toI (z := (nI se)) (ff1.1) ?_
  refine wp_aload_n d_Net_carry_71 rfl 4 rfl ?_
  refine wn_get_Net d_Net_carry_72 (hR.nt.1) 6 (by decide) wF_Net_139 rfl ?_
  refine wp_toI (z := (nI (sMin s))) (hR1.nt.2.2.2.2.2.2.2.1) ?_
  refine wp_callEU (k' := 0) (n' := 0) (r := 0) d_Net_carry_75 (link_V (as := [.int (nI se), .int (nI (sMin s))]) (rest := []) (r := (R_Chn, T_Chn, 7)) d_Net_carry_75 cal_Chn_sendAgainFrom wM_Net_174 rfl (hN_o ((hR.ci (2 * l + (1 - c)) hk16 hks).1) (by decide)) rfl) cal_Chn_sendAgainFrom (hcall I1 fa kfa hR1 ff1) (Nat.le_of_ble_eq_true rfl) ⟨Nat.le_of_ble_eq_true rfl, Nat.le_of_ble_eq_true rfl⟩ (fun h' q75 => ?_)
  refine wp_iconst (v := nI 5) d_Net_carry_78 (by decide) ?_
  exact wp_iret d_Net_carry_79 rfl ⟨rfl, q75⟩
set_option maxRecDepth 20000 in
theorem c_Net_carry3 {G : Gt} {K N : Nat → Nat} {I : Nat → Nat → Int32} {R : Nat → Nat → Option Nat} {L : Nat → Nat → Int64} {E : Nat → Nat → Int32} {El : Nat → Nat → Int64} {Er : Nat → Nat → Option Nat} {Γ : Gm} {ρ : Nat → Nat} {s : Sa} (hR : RepN Γ ρ K N I R L E El Er s) {l a b : Nat} {v : Bool} (hl : l < 8) (hv : sLn s l = some (a, b, v)) {c : Nat} (hc : c < 2) {kd se : Nat} {ws : List (Nat × Nat)} (hw : cWire (sCh s (2 * l + c)) = (kd, se) :: ws) (hkd : kd = 1) {Pq : AHp → Prop} (hcall : ∀ (I1 : Nat → Nat → Int32) (fa : Nat), K fa = 6 + 1 → RepN Γ ρ K N I1 R L E El Er (ch1 s (2 * l + c) (wWire (sCh s (2 * l + c)) ws)) → fr1 Γ K I1 R (cSent (sCh s (2 * l + c))) fa (kd, se) → CallE G m_Chn_freeUpTo 3 43 [.ref (Γ 7 (2 * l + (1 - c))), .int (nI se)] (hN K N I1 R L E El Er) 0 0 none Pq) : CallE G m_Net_carry 7 95 [.ref (Γ 0 0), .int (nI l), .int (nI c)] (hN K N I R L E El Er) 0 0 (some (.int (nI 4))) Pq := by
  have hj16 : 2 * l + c < 16 := by omega
  have hjs : (sLn s ((2 * l + c) / 2)).isSome = true := by rw [show (2 * l + c) / 2 = l by omega, hv]; rfl
  have hk16 : 2 * l + (1 - c) < 16 := by omega
  have hks : (sLn s ((2 * l + (1 - c)) / 2)).isSome = true := by rw [show (2 * l + (1 - c)) / 2 = l by omega, hv]; rfl
  have hot : otC (2 * l + (1 - c)) = 2 * l + c := by unfold otC; omega
  obtain ⟨fa, kfa, ff, hat⟩ := RgF.take (G := G) (L := L) (E := E) (El := El) (show RgF Γ K N I R Er (Γ 12 (2 * l + c)) (Γ 13 (2 * l + c)) 200 (cSent (sCh s (2 * l + c))) ((kd, se) :: ws) by rw [← hw]; exact (hR.ri (2 * l + c) hj16 hjs).2.2.2.2.2)
  refine CallS.of (Nat.le_of_ble_eq_true rfl) ?_
  refine wp_aload_n d_Net_carry_0 rfl 0 rfl ?_
  refine wp_iload_n d_Net_carry_1 rfl 1 rfl ?_
  refine wp_callV (r := 0) d_Net_carry_2 (link_V (as := [.int (nI l)]) (rest := []) (r := (R_Net, T_Net, 7)) d_Net_carry_2 cal_Net_lineAt wM_Net_127 rfl (hN_o (hR.nt.1) (by decide)) rfl) cal_Net_lineAt (c_Net_lineAt hR hl hv) (Nat.le_of_ble_eq_true rfl) ⟨Nat.le_of_ble_eq_true rfl, Nat.le_of_ble_eq_true rfl⟩ ?_
  refine wp_astore_n (lv' := [(3, .ref (Γ 6 l)), (0, .ref (Γ 0 0)), (1, .int (nI l)), (2, .int (nI c))]) d_Net_carry_5 rfl (by decide) rfl ?_
  refine wp_aload_n d_Net_carry_6 rfl 0 rfl ?_
  refine wp_iload_n d_Net_carry_7 rfl 3 rfl ?_
  refine wp_callV (r := 0) d_Net_carry_8 (link_V (as := [.int (nI c)]) (rest := []) (r := (R_Lin, T_Lin, 5)) d_Net_carry_8 cal_Lin_channelAt wM_Net_131 rfl (hN_o (((hR.li l hl).2 _ _ _ hv).2.1) (by decide)) rfl) cal_Lin_channelAt (c_Lin_channelAt hR hl hv (by omega)) (Nat.le_of_ble_eq_true rfl) ⟨Nat.le_of_ble_eq_true rfl, Nat.le_of_ble_eq_true rfl⟩ ?_
  refine wp_astore (lv' := [(4, .ref (Γ 7 (2 * l + c))), (3, .ref (Γ 6 l)), (0, .ref (Γ 0 0)), (1, .int (nI l)), (2, .int (nI c))]) d_Net_carry_11 (by decide) rfl ?_
  refine wp_aload_n d_Net_carry_13 rfl 1 rfl ?_
  refine wp_iconst (v := nI 1) d_Net_carry_14 (by decide) ?_
  refine wp_iload_n d_Net_carry_15 rfl 4 rfl ?_
  refine wp_isubN d_Net_carry_16 (by omega) ?_
  refine wp_callV (r := 0) d_Net_carry_17 (link_V (as := [.int (nI (1 - c))]) (rest := []) (r := (R_Lin, T_Lin, 5)) d_Net_carry_17 cal_Lin_channelAt wM_Net_131 rfl (hN_o (((hR.li l hl).2 _ _ _ hv).2.1) (by decide)) rfl) cal_Lin_channelAt (c_Lin_channelAt hR hl hv (by omega)) (Nat.le_of_ble_eq_true rfl) ⟨Nat.le_of_ble_eq_true rfl, Nat.le_of_ble_eq_true rfl⟩ ?_
  refine wp_astore (lv' := [(5, .ref (Γ 7 (2 * l + (1 - c)))), (4, .ref (Γ 7 (2 * l + c))), (3, .ref (Γ 6 l)), (0, .ref (Γ 0 0)), (1, .int (nI l)), (2, .int (nI c))]) d_Net_carry_20 (by decide) rfl ?_
  refine wp_aload d_Net_carry_22 1 rfl ?_
  refine wn_get_Chn d_Net_carry_24 ((hR.ci (2 * l + c) hj16 hjs).1) 2 (by decide) wF_Net_148 rfl ?_
  refine wp_toVR (o := some (Γ 12 (2 * l + c))) (z := .ref (Γ 12 (2 * l + c))) ((hR.ci (2 * l + c) hj16 hjs).2.2.2.2.1) rfl ?_
  refine wp_callEV (k' := 0) (n' := 0) (r := 0) d_Net_carry_27 (link_V (as := []) (rest := []) (r := (R_Frs, T_Frs, 3)) d_Net_carry_27 cal_Frs_takeFirst wM_Net_152 rfl (hN_o ((rg_n (hR.ri (2 * l + c) hj16 hjs).2.2.2.2.2).1) (by decide)) rfl) cal_Frs_takeFirst (hat) (Nat.le_of_ble_eq_true rfl) ⟨Nat.le_of_ble_eq_true rfl, Nat.le_of_ble_eq_true rfl⟩ (fun h' q27 => ?_)
  obtain ⟨I1, rfl, f1, f2⟩ := q27
  have hR1 := hR.wire hj16 hjs f1 fE_refl f2
  have ff1 := ff.o f1
  refine wp_astore (lv' := [(6, .ref fa), (5, .ref (Γ 7 (2 * l + (1 - c)))), (4, .ref (Γ 7 (2 * l + c))), (3, .ref (Γ 6 l)), (0, .ref (Γ 0 0)), (1, .int (nI l)), (2, .int (nI c))]) d_Net_carry_30 (by decide) rfl ?_
  refine wp_aload d_Net_carry_32 0 rfl ?_
  refine wp_ifnonnull (tgt := 39) d_Net_carry_34 (by decide) ?_
  refine wp_aload d_Net_carry_39 0 rfl ?_
  refine wn_get_Frm d_Net_carry_41 (kfa) 1 (by decide) wF_Net_158 rfl ?_
  refine wp_toVR (o := none) (z := .null) ((ff1.2.2 (by show kd ≠ 0; omega)).1) rfl ?_
  refine wp_ifnullN (tgt := 56) d_Net_carry_44 (by decide) ?_
  refine wp_aload d_Net_carry_56 0 rfl ?_
  refine wn_get_Frm d_Net_carry_58 (kfa) 2 (by decide) wF_Net_168 rfl ?_
  refine wp_toI (z := (bI false)) ((ff1.2.2 (by show kd ≠ 0; omega)).2.trans (by show bI (kd == 2) = _; rw [hkd]; rfl)) ?_
  refine wp_if_eqB (tgt := 80) d_Net_carry_61 (by decide) (fun _ => ?_) (fun c => absurd c (by decide))
  refine wp_aload d_Net_carry_80 1 rfl ?_
  refine wp_aload d_Net_carry_82 0 rfl ?_
  refine wn_get_Frm d_Net_carry_84 (kfa) 0 (by decide) wF_Net_171 rfl ?_
  refine wp_toI (z := (nI se)) (ff1.1) ?_
  refine wp_callEU (k' := 0) (n' := 0) (r := 0) d_Net_carry_87 (link_V (as := [.int (nI se)]) (rest := []) (r := (R_Chn, T_Chn, 7)) d_Net_carry_87 cal_Chn_freeUpTo wM_Net_177 rfl (hN_o ((hR.ci (2 * l + (1 - c)) hk16 hks).1) (by decide)) rfl) cal_Chn_freeUpTo (hcall I1 fa kfa hR1 ff1) (Nat.le_of_ble_eq_true rfl) ⟨Nat.le_of_ble_eq_true rfl, Nat.le_of_ble_eq_true rfl⟩ (fun h' q87 => ?_)
  refine wp_iconst (v := nI 4) d_Net_carry_90 (by decide) ?_
  exact wp_iret d_Net_carry_91 rfl ⟨rfl, q87⟩
theorem n_Net_carry {G : Gt} {K N : Nat → Nat} {I : Nat → Nat → Int32} {R : Nat → Nat → Option Nat} {L : Nat → Nat → Int64} {E : Nat → Nat → Int32} {El : Nat → Nat → Int64} {Er : Nat → Nat → Option Nat} {Γ : Gm} {ρ : Nat → Nat} {s : Sa} (hR : RepN Γ ρ K N I R L E El Er s) {n0 : Nat} (hV : Inv n0 s) (l c : Int32) : CallN G m_Net_carry 8 115 [.ref (Γ 0 0), .int l, .int c] (hN K N I R L E El Er) 8 31 (stCarry s l c) false (Γ 0 0) := by
  unfold stCarry chOK
  cases hx : hasB (lnB s) l with
  | false => exact CallN.ofT (c_Net_carryLX hR hx) (by decide) (by decide) (by decide) (by decide) rfl hR.okT
  | true =>
    obtain ⟨j, a, b, v, hl, rfl, hv⟩ := hasB_o hx
    cases hy : inZ c (nI 0) (nI 1) with
    | false => exact CallN.ofT (c_Net_carryCX hR hl hv hy) (by decide) (by decide) (by decide) (by decide) rfl hR.okT
    | true =>
      obtain ⟨i, hi, rfl⟩ := inZ_of (by decide) hy
      have hc : i < 2 := by omega
      rw [Bool.and_self, if_pos rfl, nN_nI (by omega), nN_nI (by omega), show 2 * j + 1 - i = 2 * j + (1 - i) by omega]
      have hj16 : 2 * j + i < 16 := by omega
      have ok := hV.2.2.1.2.2.2.1 (2 * j + i)
      have okk := hV.2.2.1.2.2.2.1 (2 * j + (1 - i))
      cases hw : cWire (sCh s (2 * j + i)) with
      | nil => exact CallN.ofR (c_Net_carry0 hR hl hv hc hw) (by decide) (by decide) (by decide) (by decide) rfl hR.ok
      | cons f ws =>
        obtain ⟨kd, se⟩ := f
        have fok := ok.2.2.2.2.2.2.2.1 (kd, se) (by rw [hw]; exact List.mem_cons_self)
        have hn5 := hV.1
        have hV1 : Inv n0 (ch1 s (2 * j + i) (wWire (sCh s (2 * j + i)) ws)) := disturb_Inv hV hj16 (by rw [show (2 * j + i) / 2 = j by omega, hv]; simp) hw (Or.inl rfl)
        have hne : 2 * j + (1 - i) ≠ 2 * j + i := by omega
        have hks : (sLn s ((2 * j + (1 - i)) / 2)).isSome = true := by rw [show (2 * j + (1 - i)) / 2 = j by omega, hv]; rfl
        have hse12 : se < 2 ^ 12 := by have := fok.2.2.1; show se < 4096; omega
        have ek : sCh (ch1 s (2 * j + i) (wWire (sCh s (2 * j + i)) ws)) (2 * j + (1 - i)) = sCh s (2 * j + (1 - i)) := ch1_ne hne
        have hkb := And.intro okk.1 okk.2.1
        have hsn := okk.2.2.1
        dsimp only
        unfold carryS
        dsimp only
        rcases (show kd = 0 ∨ kd = 1 ∨ kd = 2 by have := fok.1; omega) with rfl | rfl | rfl
        · rw [if_pos rfl]
          have hvt : v = true := by
            cases v with
            | true => rfl
            | false =>
              have hsv : serves s ((2 * j + i) / 2) = false := by rw [show (2 * j + i) / 2 = j by omega]; unfold serves; rw [hv]
              have := ok.2.2.2.2.2.2.2.2.2.2.1 hsv
              rw [this] at hw
              cases hw
          subst hvt
          exact CallN.ofE (c_Net_carry1 hR hl hv hc hw rfl (Pq := NetOK (Γ 0 0) _) (fun I1 fa kfa hR1 ff => CallS.mono (t_Net_meet hR1 hV1 hl hv hc kfa (by rw [ch1_at]; exact ff) (by rw [ch1_at]; exact ⟨fok.2.1, fok.2.2.2 rfl⟩)) (Nat.le_refl _) (Nat.le_refl _) (Nat.le_refl _) (Nat.le_refl _) (fun _ _ z => ⟨z.1, z.2.to⟩))) (by decide) (by decide) (by decide) (by decide) rfl (fun _ z => z)
        · rw [if_neg (by decide), if_pos rfl, ek]
          refine CallN.ofE (c_Net_carry3 hR hl hv hc hw rfl (Pq := NetOK (Γ 0 0) _) (fun I1 fa kfa hR1 ff => ?_)) (by decide) (by decide) (by decide) (by decide) rfl (fun _ z => z)
          unfold freeC
          by_cases hx : (cSent (sCh s (2 * j + (1 - i)))).length - cKept (sCh s (2 * j + (1 - i))) < se ∧ se ≤ (cSent (sCh s (2 * j + (1 - i)))).length
          · rw [if_pos hx]
            refine CallE.up (c_Chn_freeUpTo1 hR1 (show 2 * j + (1 - i) < 16 by omega) hks (by rw [ek]; exact hkb) (by rw [ek]; omega) hse12 (by rw [ek]; exact hx)) (by decide) (by decide) (fun _ z => ?_)
            rw [ek] at z
            exact z.to
          · rw [if_neg hx]
            refine CallE.up (c_Chn_freeUpTo0 hR1 (show 2 * j + (1 - i) < 16 by omega) hks (by rw [ek]; exact hkb) (by rw [ek]; omega) hse12 (by rw [ek]; exact hx)) (by decide) (by decide) (fun _ z => ?_)
            have h9 := ch1_self (ch1 s (2 * j + i) (wWire (sCh s (2 * j + i)) ws)) (2 * j + (1 - i))
            rw [ek] at h9
            rw [h9]
            exact z.to
        · rw [if_neg (by decide), if_neg (by decide), ek]
          refine CallN.ofE (c_Net_carry2 hR hl hv hc hw rfl (Pq := NetOK (Γ 0 0) _) (fun I1 fa kfa hR1 ff => ?_)) (by decide) (by decide) (by decide) (by decide) rfl (fun _ z => z)
          unfold againC
          by_cases hx : (cSent (sCh s (2 * j + (1 - i)))).length - cKept (sCh s (2 * j + (1 - i))) < se ∧ se ≤ (cSent (sCh s (2 * j + (1 - i)))).length
          · rw [if_pos hx]
            refine CallE.up (c_Chn_sendAgainFrom1 hR1 (show 2 * j + (1 - i) < 16 by omega) hks (by rw [ek]; exact hkb) (by rw [ek]; omega) hse12 (by rw [ek]; exact hx)) (by decide) (by decide) (fun _ z => ?_)
            rw [ek] at z
            exact z.to
          · rw [if_neg hx]
            refine CallE.up (c_Chn_sendAgainFrom0 hR1 (show 2 * j + (1 - i) < 16 by omega) hks (by rw [ek]; exact hkb) (by rw [ek]; omega) hse12 (by rw [ek]; exact hx)) (by decide) (by decide) (fun _ z => ?_)
            have h9 := ch1_self (ch1 s (2 * j + i) (wWire (sCh s (2 * j + i)) ws)) (2 * j + (1 - i))
            rw [ek] at h9
            rw [h9]
            exact z.to
end Cls25
