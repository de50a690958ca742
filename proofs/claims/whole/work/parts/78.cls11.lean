section Cls11
theorem wp_bud {G : Gt} {y : Mi} {B : Bt} {pc : Nat} {lv : List (Nat × Value)} {st : List Value} {h : AHp} {k n k' n' : Nat} (hk : k' ≤ k) (hn : n' ≤ n) (kk : WP G y B pc lv st h k' n') : WP G y B pc lv st h k n := by
  intro p e R s m args below meth c hF H locs ls cells slots hP
  exact kk p e R s m args below meth c hF H locs ls cells slots ⟨hP.1, hP.2.1, hP.2.2.1, hP.2.2.2.1, hP.2.2.2.2.1, by have := hP.2.2.2.2.2.1; omega, by have := hP.2.2.2.2.2.2.1; omega, hP.2.2.2.2.2.2.2⟩
theorem inZ_x {x : Int32} {n : Nat} (hn : n < 2 ^ 31) (h : inZ x (nI 0) (nI n) = false) : x < 0 ∨ nI n < x := by
  unfold inZ at h
  rw [decide_eq_false_iff_not] at h
  rcases Int32.lt_or_le x 0 with h1 | h1
  · exact Or.inl h1
  · rcases Int32.lt_or_le (nI n) x with h2 | h2
    · exact Or.inr h2
    · exact absurd ⟨h1, h2⟩ h
theorem lt_succ {x : Int32} {n m : Nat} (hm : m = n + 1) (hn : m < 2 ^ 31) (h : nI n < x) : ¬ x < nI m := by
  intro h2
  rw [Int32.lt_iff_toInt_lt, nI_toInt (by omega)] at h
  rw [Int32.lt_iff_toInt_lt, nI_toInt hn] at h2
  omega
set_option maxRecDepth 20000 in
theorem c_Net_switchAt {G : Gt} {K N : Nat → Nat} {I : Nat → Nat → Int32} {R : Nat → Nat → Option Nat} {L : Nat → Nat → Int64} {E : Nat → Nat → Int32} {El : Nat → Nat → Int64} {Er : Nat → Nat → Option Nat} {Γ : Gm} {ρ : Nat → Nat} {s : Sa} (hR : RepN Γ ρ K N I R L E El Er s) {x : Nat} (hx : x < 6) : CallR G m_Net_switchAt 0 0 [.ref (Γ 0 0), .int (nI x)] (hN K N I R L E El Er) 0 0 (some (.ref (Γ 1 x))) (hN K N I R L E El Er) := by
  refine CallS.of (Nat.le_of_ble_eq_true rfl) ?_
  refine wp_iload_n d_Net_switchAt_0 rfl 1 rfl ?_
  refine wp_if_ltN (tgt := 10) d_Net_switchAt_1 (by decide) (by omega) ?_
  refine wp_iload_n d_Net_switchAt_4 rfl 1 rfl ?_
  refine wp_bipush (v := nI 6) d_Net_switchAt_5 (by decide) ?_
  refine wp_ltN (tgt := 21) d_Net_switchAt_7 (by decide) (by omega) (by omega) (fun c7 => ?_) (fun c7 => ?_)
  · refine wp_aload_n d_Net_switchAt_21 rfl 0 rfl ?_
    refine wn_get_Net d_Net_switchAt_22 (hR.nt.1) 1 (by decide) wF_Net_18 rfl ?_
    refine wp_toVR (o := some (Γ 0 4)) (z := .ref (Γ 0 4)) (hR.nt.2.2.1) rfl ?_
    refine wp_iload_n d_Net_switchAt_25 rfl 1 rfl ?_
    refine wn_ald (x := some (Γ 1 x)) d_Net_switchAt_26 (hR.nt.2.2.2.2.2.2.2.2.1) rfl (by decide) (by rw [hR.nt.2.2.2.2.2.2.2.2.2.1]; omega) (by rw [hR.nt.2.2.2.2.2.2.2.2.2.1]; omega) ((hR.sw x hx).1) ?_
    exact wp_aret d_Net_switchAt_27 rfl (Or.inl ⟨_, rfl⟩) (Or.inr ⟨_, rfl⟩) ⟨rfl, rfl⟩
  · exact absurd c7 (by omega)
set_option maxRecDepth 20000 in
theorem c_Net_switchAtX {G : Gt} {K N : Nat → Nat} {I : Nat → Nat → Int32} {R : Nat → Nat → Option Nat} {L : Nat → Nat → Int64} {E : Nat → Nat → Int32} {El : Nat → Nat → Int64} {Er : Nat → Nat → Option Nat} {o : Nat} {x : Int32} (hx : inZ x (nI 0) (nI 5) = false) : CallT G m_Net_switchAt 6 82 [.ref o, .int x] (hN K N I R L E El Er) 1 6 0 (fun h' => h' = (hN K N I R L E El Er)) := by
  refine CallS.of (Nat.le_of_ble_eq_true rfl) ?_
  refine wp_iload_n d_Net_switchAt_0 rfl 1 rfl ?_
  refine wp_if_lt (tgt := 10) d_Net_switchAt_1 (by decide) (fun c1 => ?_) (fun c1 => ?_)
  · exact wp_throwSW (x := 0) d_Net_switchAt_10 d_Net_switchAt_13 d_Net_switchAt_14 d_Net_switchAt_17 d_Net_switchAt_20 th_Net_47 wE_Net_43 wS_Net_270 rfl ⟨Nat.le_of_ble_eq_true rfl, Nat.le_of_ble_eq_true rfl⟩ ⟨rfl, rfl⟩
  · refine wp_iload_n d_Net_switchAt_4 rfl 1 rfl ?_
    refine wp_bipush (v := nI 6) d_Net_switchAt_5 (by decide) ?_
    refine wp_icmp_lt (tgt := 21) d_Net_switchAt_7 (by decide) (fun c7 => ?_) (fun c7 => ?_)
    · exact absurd c7 (lt_succ rfl (by decide) ((inZ_x (by decide) hx).resolve_left c1))
    · exact wp_throwSW (x := 0) d_Net_switchAt_10 d_Net_switchAt_13 d_Net_switchAt_14 d_Net_switchAt_17 d_Net_switchAt_20 th_Net_47 wE_Net_43 wS_Net_270 rfl ⟨Nat.le_of_ble_eq_true rfl, Nat.le_of_ble_eq_true rfl⟩ ⟨rfl, rfl⟩
set_option maxRecDepth 20000 in
theorem c_Net_isLine1 {G : Gt} {K N : Nat → Nat} {I : Nat → Nat → Int32} {R : Nat → Nat → Option Nat} {L : Nat → Nat → Int64} {E : Nat → Nat → Int32} {El : Nat → Nat → Int64} {Er : Nat → Nat → Option Nat} {Γ : Gm} {ρ : Nat → Nat} {s : Sa} (hR : RepN Γ ρ K N I R L E El Er s) {l a b : Nat} {v : Bool} (hl : l < 8) (hv : sLn s l = some (a, b, v)) : CallR G m_Net_isLine 0 0 [.ref (Γ 0 0), .int (nI l)] (hN K N I R L E El Er) 0 0 (some (.int (bI true))) (hN K N I R L E El Er) := by
  refine CallS.of (Nat.le_of_ble_eq_true rfl) ?_
  refine wp_iload_n d_Net_isLine_0 rfl 1 rfl ?_
  refine wp_if_ltN (tgt := 23) d_Net_isLine_1 (by decide) (by omega) ?_
  refine wp_iload_n d_Net_isLine_4 rfl 1 rfl ?_
  refine wp_bipush (v := nI 8) d_Net_isLine_5 (by decide) ?_
  refine wp_geN (tgt := 23) d_Net_isLine_7 (by decide) (by omega) (by omega) (fun c7 => ?_) (fun c7 => ?_)
  · exact absurd c7 (by omega)
  · refine wp_aload_n d_Net_isLine_10 rfl 0 rfl ?_
    refine wn_get_Net d_Net_isLine_11 (hR.nt.1) 2 (by decide) wF_Net_24 rfl ?_
    refine wp_toVR (o := some (Γ 0 5)) (z := .ref (Γ 0 5)) (hR.nt.2.2.2.1) rfl ?_
    refine wp_iload_n d_Net_isLine_14 rfl 1 rfl ?_
    refine wn_ald (x := some (Γ 6 l)) d_Net_isLine_15 (hR.nt.2.2.2.2.2.2.2.2.2.2.1) rfl (by decide) (by rw [hR.nt.2.2.2.2.2.2.2.2.2.2.2.1]; omega) (by rw [hR.nt.2.2.2.2.2.2.2.2.2.2.2.1]; omega) (((hR.li l hl).2 _ _ _ hv).1) ?_
    refine wp_ifnull d_Net_isLine_16 ?_
    refine wp_iconst (v := nI 1) d_Net_isLine_19 (by decide) ?_
    refine wp_goto (tgt := 24) d_Net_isLine_20 (by decide) ?_
    exact wp_zret (ty := .boolean) d_Net_isLine_24 rfl rfl ⟨resI (bI_one (rfl)), rfl⟩
set_option maxRecDepth 20000 in
theorem c_Net_isLine0 {G : Gt} {K N : Nat → Nat} {I : Nat → Nat → Int32} {R : Nat → Nat → Option Nat} {L : Nat → Nat → Int64} {E : Nat → Nat → Int32} {El : Nat → Nat → Int64} {Er : Nat → Nat → Option Nat} {Γ : Gm} {ρ : Nat → Nat} {s : Sa} (hR : RepN Γ ρ K N I R L E El Er s) {l : Nat} (hl : l < 8) (hv : sLn s l = none) : CallR G m_Net_isLine 0 0 [.ref (Γ 0 0), .int (nI l)] (hN K N I R L E El Er) 0 0 (some (.int (bI false))) (hN K N I R L E El Er) := by
  refine CallS.of (Nat.le_of_ble_eq_true rfl) ?_
  refine wp_iload_n d_Net_isLine_0 rfl 1 rfl ?_
  refine wp_if_ltN (tgt := 23) d_Net_isLine_1 (by decide) (by omega) ?_
  refine wp_iload_n d_Net_isLine_4 rfl 1 rfl ?_
  refine wp_bipush (v := nI 8) d_Net_isLine_5 (by decide) ?_
  refine wp_geN (tgt := 23) d_Net_isLine_7 (by decide) (by omega) (by omega) (fun c7 => ?_) (fun c7 => ?_)
  · refine wp_iconst (v := nI 0) d_Net_isLine_23 (by decide) ?_
    exact wp_zret (ty := .boolean) d_Net_isLine_24 rfl rfl ⟨resI (bI_zero (rfl)), rfl⟩
  · refine wp_aload_n d_Net_isLine_10 rfl 0 rfl ?_
    refine wn_get_Net d_Net_isLine_11 (hR.nt.1) 2 (by decide) wF_Net_24 rfl ?_
    refine wp_toVR (o := some (Γ 0 5)) (z := .ref (Γ 0 5)) (hR.nt.2.2.2.1) rfl ?_
    refine wp_iload_n d_Net_isLine_14 rfl 1 rfl ?_
    refine wn_ald (x := none) d_Net_isLine_15 (hR.nt.2.2.2.2.2.2.2.2.2.2.1) rfl (by decide) (by rw [hR.nt.2.2.2.2.2.2.2.2.2.2.2.1]; omega) (by rw [hR.nt.2.2.2.2.2.2.2.2.2.2.2.1]; omega) ((hR.li l hl).1 hv) ?_
    refine wp_ifnullN (tgt := 23) d_Net_isLine_16 (by decide) ?_
    refine wp_iconst (v := nI 0) d_Net_isLine_23 (by decide) ?_
    exact wp_zret (ty := .boolean) d_Net_isLine_24 rfl rfl ⟨resI (bI_zero (rfl)), rfl⟩
set_option maxRecDepth 20000 in
theorem c_Net_isLineX {G : Gt} {K N : Nat → Nat} {I : Nat → Nat → Int32} {R : Nat → Nat → Option Nat} {L : Nat → Nat → Int64} {E : Nat → Nat → Int32} {El : Nat → Nat → Int64} {Er : Nat → Nat → Option Nat} {o : Nat} {x : Int32} (hx : inZ x (nI 0) (nI 7) = false) : CallR G m_Net_isLine 0 0 [.ref o, .int x] (hN K N I R L E El Er) 0 0 (some (.int (bI false))) (hN K N I R L E El Er) := by
  refine CallS.of (Nat.le_of_ble_eq_true rfl) ?_
  refine wp_iload_n d_Net_isLine_0 rfl 1 rfl ?_
  refine wp_if_lt (tgt := 23) d_Net_isLine_1 (by decide) (fun c1 => ?_) (fun c1 => ?_)
  · refine wp_iconst (v := nI 0) d_Net_isLine_23 (by decide) ?_
    exact wp_zret (ty := .boolean) d_Net_isLine_24 rfl rfl ⟨resI (bI_zero (rfl)), rfl⟩
  · refine wp_iload_n d_Net_isLine_4 rfl 1 rfl ?_
    refine wp_bipush (v := nI 8) d_Net_isLine_5 (by decide) ?_
    refine wp_icmp_ge (tgt := 23) d_Net_isLine_7 (by decide) (fun c7 => ?_) (fun c7 => ?_)
    · refine wp_iconst (v := nI 0) d_Net_isLine_23 (by decide) ?_
      exact wp_zret (ty := .boolean) d_Net_isLine_24 rfl rfl ⟨resI (bI_zero (rfl)), rfl⟩
    · exact absurd ((inZ_x (by decide) hx).resolve_left c1) (fun q => lt_succ rfl (by decide) q (Int32.not_le.mp c7))
theorem c_Net_isLine {G : Gt} {K N : Nat → Nat} {I : Nat → Nat → Int32} {R : Nat → Nat → Option Nat} {L : Nat → Nat → Int64} {E : Nat → Nat → Int32} {El : Nat → Nat → Int64} {Er : Nat → Nat → Option Nat} {Γ : Gm} {ρ : Nat → Nat} {s : Sa} (hR : RepN Γ ρ K N I R L E El Er s) (x : Int32) : CallR G m_Net_isLine 0 0 [.ref (Γ 0 0), .int x] (hN K N I R L E El Er) 0 0 (some (.int (bI (hasB (lnB s) x)))) (hN K N I R L E El Er) := by
  cases hx : inZ x (nI 0) (nI 7) with
  | false => exact CallR.eq (c_Net_isLineX hx) (by simp [hasB, hx]) rfl
  | true =>
    obtain ⟨j, hj, rfl⟩ := inZ_of (by decide) hx
    cases hv : sLn s j with
    | none => exact CallR.eq (c_Net_isLine0 hR (by omega) hv) (by simp [hasB, hx, lnB, nI_clamp (show j < 2 ^ 31 by omega), hv]) rfl
    | some q =>
      obtain ⟨a, b, v⟩ := q
      exact CallR.eq (c_Net_isLine1 hR (by omega) hv) (by simp [hasB, hx, lnB, nI_clamp (show j < 2 ^ 31 by omega), hv]) rfl
theorem hasB_o {s : Sa} {x : Int32} (h : hasB (lnB s) x = true) : ∃ l a b v, l < 8 ∧ x = nI l ∧ sLn s l = some (a, b, v) := by
  unfold hasB at h
  rw [Bool.and_eq_true] at h
  obtain ⟨j, hj, rfl⟩ := inZ_of (by decide) h.1
  have h2 := h.2
  rw [nI_clamp (by omega)] at h2
  cases hv : sLn s j with
  | none => simp [lnB, hv] at h2
  | some q => exact ⟨j, q.1, q.2.1, q.2.2, by omega, rfl, hv⟩
theorem hasB_tt {s : Sa} {l a b : Nat} {v : Bool} (hl : l < 8) (hv : sLn s l = some (a, b, v)) : hasB (lnB s) (nI l) = true := by
  unfold hasB
  rw [inZ_nI (by omega) (by decide) (by decide), nI_clamp (by omega)]
  simp [lnB, hv]
  omega
set_option maxRecDepth 20000 in
theorem c_Net_lineAt {G : Gt} {K N : Nat → Nat} {I : Nat → Nat → Int32} {R : Nat → Nat → Option Nat} {L : Nat → Nat → Int64} {E : Nat → Nat → Int32} {El : Nat → Nat → Int64} {Er : Nat → Nat → Option Nat} {Γ : Gm} {ρ : Nat → Nat} {s : Sa} (hR : RepN Γ ρ K N I R L E El Er s) {l a b : Nat} {v : Bool} (hl : l < 8) (hv : sLn s l = some (a, b, v)) : CallR G m_Net_lineAt 1 13 [.ref (Γ 0 0), .int (nI l)] (hN K N I R L E El Er) 0 0 (some (.ref (Γ 6 l))) (hN K N I R L E El Er) := by
  refine CallS.of (Nat.le_of_ble_eq_true rfl) ?_
  refine wp_aload_n d_Net_lineAt_0 rfl 0 rfl ?_
  refine wp_iload_n d_Net_lineAt_1 rfl 1 rfl ?_
  refine wp_callV (r := 0) d_Net_lineAt_2 (link_V (as := [.int (nI l)]) (rest := []) (r := (R_Net, T_Net, 7)) d_Net_lineAt_2 cal_Net_isLine wM_Net_272 rfl (hN_o (hR.nt.1) (by decide)) rfl) cal_Net_isLine (c_Net_isLine1 hR hl hv) (Nat.le_of_ble_eq_true rfl) ⟨Nat.le_of_ble_eq_true rfl, Nat.le_of_ble_eq_true rfl⟩ ?_
  refine wp_if_neB (tgt := 19) d_Net_lineAt_5 (by decide) (fun _ => ?_) (fun c => absurd c (by decide))
  refine wp_aload_n d_Net_lineAt_19 rfl 0 rfl ?_
  refine wn_get_Net d_Net_lineAt_20 (hR.nt.1) 2 (by decide) wF_Net_24 rfl ?_
  refine wp_toVR (o := some (Γ 0 5)) (z := .ref (Γ 0 5)) (hR.nt.2.2.2.1) rfl ?_
  refine wp_iload_n d_Net_lineAt_23 rfl 1 rfl ?_
  refine wn_ald (x := some (Γ 6 l)) d_Net_lineAt_24 (hR.nt.2.2.2.2.2.2.2.2.2.2.1) rfl (by decide) (by rw [hR.nt.2.2.2.2.2.2.2.2.2.2.2.1]; omega) (by rw [hR.nt.2.2.2.2.2.2.2.2.2.2.2.1]; omega) (((hR.li l hl).2 _ _ _ hv).1) ?_
  exact wp_aret d_Net_lineAt_25 rfl (Or.inl ⟨_, rfl⟩) (Or.inr ⟨_, rfl⟩) ⟨rfl, rfl⟩
set_option maxRecDepth 20000 in
theorem c_Net_lineAtX {G : Gt} {K N : Nat → Nat} {I : Nat → Nat → Int32} {R : Nat → Nat → Option Nat} {L : Nat → Nat → Int64} {E : Nat → Nat → Int32} {El : Nat → Nat → Int64} {Er : Nat → Nat → Option Nat} {Γ : Gm} {ρ : Nat → Nat} {s : Sa} (hR : RepN Γ ρ K N I R L E El Er s) {x : Int32} (hx : hasB (lnB s) x = false) : CallT G m_Net_lineAt 6 82 [.ref (Γ 0 0), .int x] (hN K N I R L E El Er) 1 6 0 (fun h' => h' = (hN K N I R L E El Er)) := by
  refine CallS.of (Nat.le_of_ble_eq_true rfl) ?_
  refine wp_aload_n d_Net_lineAt_0 rfl 0 rfl ?_
  refine wp_iload_n d_Net_lineAt_1 rfl 1 rfl ?_
  refine wp_callV (r := 0) d_Net_lineAt_2 (link_V (as := [.int x]) (rest := []) (r := (R_Net, T_Net, 7)) d_Net_lineAt_2 cal_Net_isLine wM_Net_272 rfl (hN_o (hR.nt.1) (by decide)) rfl) cal_Net_isLine (CallR.eq (c_Net_isLine hR x) (by rw [hx]) rfl) (Nat.le_of_ble_eq_true rfl) ⟨Nat.le_of_ble_eq_true rfl, Nat.le_of_ble_eq_true rfl⟩ ?_
  refine wp_if_neB (tgt := 19) d_Net_lineAt_5 (by decide) (fun c => absurd c (by decide)) (fun _ => ?_)
  exact wp_throwSW (x := 0) d_Net_lineAt_8 d_Net_lineAt_11 d_Net_lineAt_12 d_Net_lineAt_15 d_Net_lineAt_18 th_Net_47 wE_Net_43 wS_Net_275 rfl ⟨Nat.le_of_ble_eq_true rfl, Nat.le_of_ble_eq_true rfl⟩ ⟨rfl, rfl⟩
set_option maxRecDepth 20000 in
theorem c_Lin_channelAt0 {G : Gt} {K N : Nat → Nat} {I : Nat → Nat → Int32} {R : Nat → Nat → Option Nat} {L : Nat → Nat → Int64} {E : Nat → Nat → Int32} {El : Nat → Nat → Int64} {Er : Nat → Nat → Option Nat} {Γ : Gm} {ρ : Nat → Nat} {s : Sa} (hR : RepN Γ ρ K N I R L E El Er s) {l a b : Nat} {v : Bool} (hl : l < 8) (hv : sLn s l = some (a, b, v)) : CallR G m_Lin_channelAt 0 0 [.ref (Γ 6 l), .int (nI 0)] (hN K N I R L E El Er) 0 0 (some (.ref (Γ 7 (2 * l)))) (hN K N I R L E El Er) := by
  refine CallS.of (Nat.le_of_ble_eq_true rfl) ?_
  refine wp_iload_n d_Lin_channelAt_0 rfl 1 rfl ?_
  refine wp_if_eqN (tgt := 19) d_Lin_channelAt_1 (by decide) (by omega) (fun _ => ?_) (fun c => absurd c (by decide))
  refine wp_iload_n d_Lin_channelAt_19 rfl 1 rfl ?_
  refine wp_if_neN (tgt := 30) d_Lin_channelAt_20 (by decide) (by omega) (fun c => absurd c (by decide)) (fun _ => ?_)
  refine wp_aload_n d_Lin_channelAt_23 rfl 0 rfl ?_
  refine wn_get_Lin d_Lin_channelAt_24 (((hR.li l hl).2 _ _ _ hv).2.1) 2 (by decide) wF_Lin_10 rfl ?_
  refine wp_toVR (o := some (Γ 7 (2 * l))) (z := .ref (Γ 7 (2 * l))) (((hR.li l hl).2 _ _ _ hv).2.2.2.2.2.1) rfl ?_
  refine wp_goto (tgt := 34) d_Lin_channelAt_27 (by decide) ?_
  exact wp_aret d_Lin_channelAt_34 rfl (Or.inl ⟨_, rfl⟩) (Or.inr ⟨_, rfl⟩) ⟨rfl, rfl⟩
set_option maxRecDepth 20000 in
theorem c_Lin_channelAt1 {G : Gt} {K N : Nat → Nat} {I : Nat → Nat → Int32} {R : Nat → Nat → Option Nat} {L : Nat → Nat → Int64} {E : Nat → Nat → Int32} {El : Nat → Nat → Int64} {Er : Nat → Nat → Option Nat} {Γ : Gm} {ρ : Nat → Nat} {s : Sa} (hR : RepN Γ ρ K N I R L E El Er s) {l a b : Nat} {v : Bool} (hl : l < 8) (hv : sLn s l = some (a, b, v)) : CallR G m_Lin_channelAt 0 0 [.ref (Γ 6 l), .int (nI 1)] (hN K N I R L E El Er) 0 0 (some (.ref (Γ 7 (2 * l + 1)))) (hN K N I R L E El Er) := by
  refine CallS.of (Nat.le_of_ble_eq_true rfl) ?_
  refine wp_iload_n d_Lin_channelAt_0 rfl 1 rfl ?_
  refine wp_if_eqN (tgt := 19) d_Lin_channelAt_1 (by decide) (by omega) (fun c => absurd c (by decide)) (fun _ => ?_)
  refine wp_iload_n d_Lin_channelAt_4 rfl 1 rfl ?_
  refine wp_iconst (v := nI 1) d_Lin_channelAt_5 (by decide) ?_
  refine wp_eqN (tgt := 19) d_Lin_channelAt_6 (by decide) (by omega) (by omega) (fun _ => ?_) (fun c => absurd c (by decide))
  refine wp_iload_n d_Lin_channelAt_19 rfl 1 rfl ?_
  refine wp_if_neN (tgt := 30) d_Lin_channelAt_20 (by decide) (by omega) (fun _ => ?_) (fun c => absurd c (by decide))
  refine wp_aload_n d_Lin_channelAt_30 rfl 0 rfl ?_
  refine wn_get_Lin d_Lin_channelAt_31 (((hR.li l hl).2 _ _ _ hv).2.1) 3 (by decide) wF_Lin_16 rfl ?_
  refine wp_toVR (o := some (Γ 7 (2 * l + 1))) (z := .ref (Γ 7 (2 * l + 1))) (((hR.li l hl).2 _ _ _ hv).2.2.2.2.2.2.1) rfl ?_
  exact wp_aret d_Lin_channelAt_34 rfl (Or.inl ⟨_, rfl⟩) (Or.inr ⟨_, rfl⟩) ⟨rfl, rfl⟩
set_option maxRecDepth 20000 in
theorem c_Lin_channelAtX {G : Gt} {K N : Nat → Nat} {I : Nat → Nat → Int32} {R : Nat → Nat → Option Nat} {L : Nat → Nat → Int64} {E : Nat → Nat → Int32} {El : Nat → Nat → Int64} {Er : Nat → Nat → Option Nat} {o : Nat} {x : Int32} (hx : inZ x (nI 0) (nI 1) = false) : CallT G m_Lin_channelAt 6 82 [.ref o, .int x] (hN K N I R L E El Er) 1 6 0 (fun h' => h' = (hN K N I R L E El Er)) := by
  refine CallS.of (Nat.le_of_ble_eq_true rfl) ?_
  refine wp_iload_n d_Lin_channelAt_0 rfl 1 rfl ?_
  refine wp_if_eq (tgt := 19) d_Lin_channelAt_1 (by decide) (fun c1 => ?_) (fun c1 => ?_)
  · first | exact absurd hx (by rw [c1]; decide) | exact absurd hx (by rw [c6]; decide)
  · refine wp_iload_n d_Lin_channelAt_4 rfl 1 rfl ?_
    refine wp_iconst (v := nI 1) d_Lin_channelAt_5 (by decide) ?_
    refine wp_icmp_eq (tgt := 19) d_Lin_channelAt_6 (by decide) (fun c6 => ?_) (fun c6 => ?_)
    · first | exact absurd hx (by rw [c1]; decide) | exact absurd hx (by rw [c6]; decide)
    · exact wp_throwS (x := 0) d_Lin_channelAt_9 d_Lin_channelAt_12 d_Lin_channelAt_13 d_Lin_channelAt_15 d_Lin_channelAt_18 th_Lin_34 wE_Lin_30 wS_Lin_32 rfl ⟨Nat.le_of_ble_eq_true rfl, Nat.le_of_ble_eq_true rfl⟩ ⟨rfl, rfl⟩
theorem c_Lin_channelAt {G : Gt} {K N : Nat → Nat} {I : Nat → Nat → Int32} {R : Nat → Nat → Option Nat} {L : Nat → Nat → Int64} {E : Nat → Nat → Int32} {El : Nat → Nat → Int64} {Er : Nat → Nat → Option Nat} {Γ : Gm} {ρ : Nat → Nat} {s : Sa} (hR : RepN Γ ρ K N I R L E El Er s) {l a b : Nat} {v : Bool} (hl : l < 8) (hv : sLn s l = some (a, b, v)) {c : Nat} (hc : c < 2) : CallR G m_Lin_channelAt 0 0 [.ref (Γ 6 l), .int (nI c)] (hN K N I R L E El Er) 0 0 (some (.ref (Γ 7 (2 * l + c)))) (hN K N I R L E El Er) := by
  match c, hc with
  | 0, _ => exact c_Lin_channelAt0 hR hl hv
  | 1, _ => exact c_Lin_channelAt1 hR hl hv
set_option maxRecDepth 20000 in
theorem c_Lin_channelFrom {G : Gt} {K N : Nat → Nat} {I : Nat → Nat → Int32} {R : Nat → Nat → Option Nat} {L : Nat → Nat → Int64} {E : Nat → Nat → Int32} {El : Nat → Nat → Int64} {Er : Nat → Nat → Option Nat} {Γ : Gm} {ρ : Nat → Nat} {s : Sa} (hR : RepN Γ ρ K N I R L E El Er s) {l a b : Nat} {v : Bool} (hl : l < 8) (hv : sLn s l = some (a, b, v)) {x : Nat} (hx : x < 6) (ha6 : a < 6) : CallR G m_Lin_channelFrom 0 0 [.ref (Γ 6 l), .int (nI x)] (hN K N I R L E El Er) 0 0 (some (.ref (Γ 7 (2 * l + if a = x then 0 else 1)))) (hN K N I R L E El Er) := by
  refine CallS.of (Nat.le_of_ble_eq_true rfl) ?_
  refine wp_iload_n d_Lin_channelFrom_0 rfl 1 rfl ?_
  refine wp_aload_n d_Lin_channelFrom_1 rfl 0 rfl ?_
  refine wn_get_Lin d_Lin_channelFrom_2 (((hR.li l hl).2 _ _ _ hv).2.1) 0 (by decide) wF_Lin_23 rfl ?_
  refine wp_toI (z := (nI a)) (((hR.li l hl).2 _ _ _ hv).2.2.2.1) ?_
  refine wp_neN (tgt := 15) d_Lin_channelFrom_5 (by decide) (by omega) (by omega) (fun c5 => ?_) (fun c5 => ?_)
  · refine wp_aload_n d_Lin_channelFrom_15 rfl 0 rfl ?_
    refine wn_get_Lin d_Lin_channelFrom_16 (((hR.li l hl).2 _ _ _ hv).2.1) 3 (by decide) wF_Lin_16 rfl ?_
    refine wp_toVR (o := some (Γ 7 (2 * l + 1))) (z := .ref (Γ 7 (2 * l + 1))) (((hR.li l hl).2 _ _ _ hv).2.2.2.2.2.2.1) rfl ?_
    exact wp_aret d_Lin_channelFrom_19 rfl (Or.inl ⟨_, rfl⟩) (Or.inr ⟨_, rfl⟩) ⟨(by first | (rw [if_pos (by omega)]; rfl) | (rw [if_neg (by omega)])), rfl⟩
  · refine wp_aload_n d_Lin_channelFrom_8 rfl 0 rfl ?_
    refine wn_get_Lin d_Lin_channelFrom_9 (((hR.li l hl).2 _ _ _ hv).2.1) 2 (by decide) wF_Lin_10 rfl ?_
    refine wp_toVR (o := some (Γ 7 (2 * l))) (z := .ref (Γ 7 (2 * l))) (((hR.li l hl).2 _ _ _ hv).2.2.2.2.2.1) rfl ?_
    refine wp_goto (tgt := 19) d_Lin_channelFrom_12 (by decide) ?_
    exact wp_aret d_Lin_channelFrom_19 rfl (Or.inl ⟨_, rfl⟩) (Or.inr ⟨_, rfl⟩) ⟨(by first | (rw [if_pos (by omega)]; rfl) | (rw [if_neg (by omega)])), rfl⟩
set_option maxRecDepth 20000 in
theorem c_Lin_touches {G : Gt} {K N : Nat → Nat} {I : Nat → Nat → Int32} {R : Nat → Nat → Option Nat} {L : Nat → Nat → Int64} {E : Nat → Nat → Int32} {El : Nat → Nat → Int64} {Er : Nat → Nat → Option Nat} {Γ : Gm} {ρ : Nat → Nat} {s : Sa} (hR : RepN Γ ρ K N I R L E El Er s) {l a b : Nat} {v : Bool} (hl : l < 8) (hv : sLn s l = some (a, b, v)) {x : Nat} (hx : x < 6) (ha6 : a < 6) (hb6 : b < 6) : CallR G m_Lin_touches 0 0 [.ref (Γ 6 l), .int (nI x)] (hN K N I R L E El Er) 0 0 (some (.int (bI (a == x || b == x)))) (hN K N I R L E El Er) := by
  refine CallS.of (Nat.le_of_ble_eq_true rfl) ?_
  refine wp_iload_n d_Lin_touches_0 rfl 1 rfl ?_
  refine wp_aload_n d_Lin_touches_1 rfl 0 rfl ?_
  refine wn_get_Lin d_Lin_touches_2 (((hR.li l hl).2 _ _ _ hv).2.1) 0 (by decide) wF_Lin_23 rfl ?_
  refine wp_toI (z := (nI a)) (((hR.li l hl).2 _ _ _ hv).2.2.2.1) ?_
  refine wp_eqN (tgt := 16) d_Lin_touches_5 (by decide) (by omega) (by omega) (fun c5 => ?_) (fun c5 => ?_)
  · refine wp_iconst (v := nI 1) d_Lin_touches_16 (by decide) ?_
    refine wp_goto (tgt := 21) d_Lin_touches_17 (by decide) ?_
    exact wp_zret (ty := .boolean) d_Lin_touches_21 rfl rfl ⟨resI (bI_one (by simp; omega)), rfl⟩
  · refine wp_iload_n d_Lin_touches_8 rfl 1 rfl ?_
    refine wp_aload_n d_Lin_touches_9 rfl 0 rfl ?_
    refine wn_get_Lin d_Lin_touches_10 (((hR.li l hl).2 _ _ _ hv).2.1) 1 (by decide) wF_Lin_27 rfl ?_
    refine wp_toI (z := (nI b)) (((hR.li l hl).2 _ _ _ hv).2.2.2.2.1) ?_
    refine wp_neN (tgt := 20) d_Lin_touches_13 (by decide) (by omega) (by omega) (fun c13 => ?_) (fun c13 => ?_)
    · refine wp_iconst (v := nI 0) d_Lin_touches_20 (by decide) ?_
      exact wp_zret (ty := .boolean) d_Lin_touches_21 rfl rfl ⟨resI (bI_zero (by simp; omega)), rfl⟩
    · refine wp_iconst (v := nI 1) d_Lin_touches_16 (by decide) ?_
      refine wp_goto (tgt := 21) d_Lin_touches_17 (by decide) ?_
      exact wp_zret (ty := .boolean) d_Lin_touches_21 rfl rfl ⟨resI (bI_one (by simp; omega)), rfl⟩
end Cls11
