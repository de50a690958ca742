section Cls30
theorem gm_new (Γ : Gm) (s : Sa) (qm qt qa : Nat) : ∃ Γ' : Gm, GmE Γ Γ' s ∧ Γ' 14 ((sMs s).length + 1) = qm ∧ Γ' 15 ((sMs s).length + 1) = qt ∧ Γ' 16 ((sMs s).length + 1) = qa := by
  refine ⟨fun k => if k = 14 then va_up (Γ 14) ((sMs s).length + 1) qm else if k = 15 then va_up (Γ 15) ((sMs s).length + 1) qt else if k = 16 then va_up (Γ 16) ((sMs s).length + 1) qa else Γ k, ⟨fun k hk => ?_, fun x k e _ _ => rfl, fun l _ _ => rfl, fun k c h7 h13 _ _ _ => ?_, fun c p _ _ _ => rfl, fun k m h14 h16 hm => ?_⟩, ?_, ?_, ?_⟩
  · dsimp only
    rw [if_neg (by omega), if_neg (by omega), if_neg (by omega)]
  · dsimp only
    rw [if_neg (by omega), if_neg (by omega), if_neg (by omega)]
  · dsimp only
    rcases (show k = 14 ∨ k = 15 ∨ k = 16 by omega) with rfl | rfl | rfl
    · rw [if_pos rfl]
      exact if_neg (by omega)
    · rw [if_neg (by decide), if_pos rfl]
      exact if_neg (by omega)
    · rw [if_neg (by decide), if_neg (by decide), if_pos rfl]
      exact if_neg (by omega)
  · dsimp only
    rw [if_pos rfl]
    exact if_pos rfl
  · dsimp only
    rw [if_neg (by decide), if_pos rfl]
    exact if_pos rfl
  · dsimp only
    rw [if_neg (by decide), if_neg (by decide), if_pos rfl]
    exact if_pos rfl
theorem file_come {G : Gt} {K N : Nat → Nat} {I : Nat → Nat → Int32} {R : Nat → Nat → Option Nat} {L : Nat → Nat → Int64} {E : Nat → Nat → Int32} {El : Nat → Nat → Int64} {Er : Nat → Nat → Option Nat} {Γ : Gm} {ρ : Nat → Nat} {s : Sa} (hR : RepN Γ ρ K N I R L E El Er s) {n0 : Nat} (hV : Inv n0 s) {x qm qt qa n p : Nat} {as : List (List Nat)} {gt : Nat → Int32} {ga : Nat → Int64} (h1 : K qt = 0) (h2 : K qm = 0) (h3 : K qa = 0) (n1 : qm ≠ qt) (n2 : qa ≠ qt) (n3 : qa ≠ qm) (hl : (sMs s).length < 200) (ht : ∀ i, i < n → gt i = b8 (txtR (sLog s) i)) (ha : ∀ k a, as[k]? = some a → ga k = lN (leN a)) (hx : x < 6) (hok : okMs (sLog s).length (p, as, n, (sLog s).length)) : CallE G m_Net_comeTo 3 47 [.ref (Γ 0 0), .int (nI x), .ref qm, .int (nI (2 ^ as.length - 1)), .int (-1)] (hN (va_up (va_up (va_up K qt (20 + 2)) qm (9 + 1)) qa (20 + 1)) (va_up (va_up N qt n) qa as.length) (u2 (u2 I 45 qm (nI p)) 5 (Γ 0 0) (nI ((sMs s).length + 1))) (u2r (u2r R 43 qm (some qt)) 44 qm (some qa)) L (va_up E qt gt) (va_up El qa ga) (u2r Er (Γ 0 6) (sMs s).length (some qm))) 7 28 none (NetOK (Γ 0 0) (comesS (addM s (p, as, n, (sLog s).length)) x ((sMs s).length + 1) (2 ^ as.length - 1) 0)) := by
  obtain ⟨Γ', hE, g14, g15, g16⟩ := gm_new Γ s qm qt qa
  have g0 : Γ' 0 = Γ 0 := hE.1 0 (by decide)
  have hR' := (hR.gm hV hE).msg hV (n := n) (p := p) (as := as) g14 g15 g16 h1 h2 h3 n1 n2 n3 hl rfl ht ha
  have hB := addM_B hV.B hl hok
  have hset : 2 ^ as.length - 1 < 2 ^ 7 := by have := Nat.pow_le_pow_right (n := 2) (by decide) hok.2.2.1; have := Nat.pow_pos (n := as.length) (show 0 < 2 by decide); dsimp only at *; omega
  have hc := c_Net_comeTo (G := G) (j := (sMs s).length) (m := (p, as, n, (sLog s).length)) (x := x) (set := 2 ^ as.length - 1) (by1 := 0) hR' (by show (sMs s ++ [(p, as, n, (sLog s).length)])[(sMs s).length]? = _; simp) hB.CI (hB.CS x) hx hset (by decide) (by unfold prioOf; show ((sMs s ++ [(p, as, n, (sLog s).length)]).getD ((sMs s).length + 1 - 1) (0, [], 0, 0)).1 < 5; rw [show (sMs s).length + 1 - 1 = (sMs s).length by omega, List.getD_eq_getElem?_getD]; simp; exact hok.1)
  rw [g14, g0] at hc
  have hp := pc7_le (2 ^ as.length - 1)
  refine CallS.mono hc (Nat.le_refl _) (Nat.le_refl _) hp (by omega) (fun r h' z => ⟨z.1, ?_⟩)
  have := z.2.to
  rw [g0] at this
  exact this
set_option maxRecDepth 20000 in
theorem c_Net_fileSX {G : Gt} {K N : Nat → Nat} {I : Nat → Nat → Int32} {R : Nat → Nat → Option Nat} {L : Nat → Nat → Int64} {E : Nat → Nat → Int32} {El : Nat → Nat → Int64} {Er : Nat → Nat → Option Nat} {Γ : Gm} {ρ : Nat → Nat} {s : Sa} (hR : RepN Γ ρ K N I R L E El Er s) {x z : Int32} (hx : inZ x (nI 0) (nI 5) = false) : CallT G m_Net_file 7 95 [.ref (Γ 0 0), .int x, .int z] (hN K N I R L E El Er) 1 6 0 (fun h' => h' = (hN K N I R L E El Er)) := by
  refine CallS.of (Nat.le_of_ble_eq_true rfl) ?_
  refine wp_aload_n d_Net_file_0 rfl 0 rfl ?_
  refine wp_iload_n d_Net_file_1 rfl 1 rfl ?_
  exact wp_callT (k' := 1) (n' := 6) (r := 0) d_Net_file_2 (link_V (as := [.int x]) (rest := []) (r := (R_Net, T_Net, 7)) d_Net_file_2 cal_Net_switchAt wM_Net_39 rfl (hN_o (hR.nt.1) (by decide)) rfl) cal_Net_switchAt rfl (c_Net_switchAtX hx) (Nat.le_of_ble_eq_true rfl) ⟨Nat.le_of_ble_eq_true rfl, Nat.le_of_ble_eq_true rfl⟩ (fun h' q => ⟨rfl, q⟩)
set_option maxRecDepth 20000 in
theorem c_Net_fileLX {G : Gt} {K N : Nat → Nat} {I : Nat → Nat → Int32} {R : Nat → Nat → Option Nat} {L : Nat → Nat → Int64} {E : Nat → Nat → Int32} {El : Nat → Nat → Int64} {Er : Nat → Nat → Option Nat} {Γ : Gm} {ρ : Nat → Nat} {s : Sa} (hR : RepN Γ ρ K N I R L E El Er s) {x : Nat} {z : Int32} (hx : x < 6) (hz : inZ z (nI 0) (nI 1600) = false) : CallT G m_Net_file 6 82 [.ref (Γ 0 0), .int (nI x), .int z] (hN K N I R L E El Er) 1 6 0 (fun h' => h' = (hN K N I R L E El Er)) := by
  refine CallS.of (Nat.le_of_ble_eq_true rfl) ?_
  refine wp_aload_n d_Net_file_0 rfl 0 rfl ?_
  refine wp_iload_n d_Net_file_1 rfl 1 rfl ?_
  refine wp_callV (r := 0) d_Net_file_2 (link_V (as := [.int (nI x)]) (rest := []) (r := (R_Net, T_Net, 7)) d_Net_file_2 cal_Net_switchAt wM_Net_39 rfl (hN_o (hR.nt.1) (by decide)) rfl) cal_Net_switchAt (c_Net_switchAt hR hx) (Nat.le_of_ble_eq_true rfl) ⟨Nat.le_of_ble_eq_true rfl, Nat.le_of_ble_eq_true rfl⟩ ?_
  refine wp_pop d_Net_file_5 rfl ?_
  refine wp_iload_n d_Net_file_6 rfl 2 rfl ?_
  refine wp_if_lt (tgt := 17) d_Net_file_7 (by decide) (fun c7 => ?_) (fun c7 => ?_)
  · exact wp_throwS (x := 0) d_Net_file_17 d_Net_file_20 d_Net_file_21 d_Net_file_23 d_Net_file_26 th_Net_47 wE_Net_43 wS_Net_101 rfl ⟨Nat.le_of_ble_eq_true rfl, Nat.le_of_ble_eq_true rfl⟩ ⟨rfl, rfl⟩
  · refine wp_iload_n d_Net_file_10 rfl 2 rfl ?_
    refine wp_sipush (v := nI 1600) d_Net_file_11 (by decide) ?_
    refine wp_icmp_le (tgt := 27) d_Net_file_14 (by decide) (fun c14 => ?_) (fun c14 => ?_)
    · exact absurd ((show inZ z (nI 0) (nI 1600) = true from inZ_t c7 (Int32.not_lt.mpr c14)).symm.trans hz) (by decide)
    · exact wp_throwS (x := 0) d_Net_file_17 d_Net_file_20 d_Net_file_21 d_Net_file_23 d_Net_file_26 th_Net_47 wE_Net_43 wS_Net_101 rfl ⟨Nat.le_of_ble_eq_true rfl, Nat.le_of_ble_eq_true rfl⟩ ⟨rfl, rfl⟩
set_option maxRecDepth 20000 in
theorem c_Net_fileMX {G : Gt} {K N : Nat → Nat} {I : Nat → Nat → Int32} {R : Nat → Nat → Option Nat} {L : Nat → Nat → Int64} {E : Nat → Nat → Int32} {El : Nat → Nat → Int64} {Er : Nat → Nat → Option Nat} {Γ : Gm} {ρ : Nat → Nat} {s : Sa} (hR : RepN Γ ρ K N I R L E El Er s) {x n : Nat} (hx : x < 6) (hn : n ≤ 1600) (hm : (sMs s).length = 200) : CallT G m_Net_file 6 82 [.ref (Γ 0 0), .int (nI x), .int (nI n)] (hN K N I R L E El Er) 1 6 1 (fun h' => h' = (hN K N I R L E El Er)) := by
  refine CallS.of (Nat.le_of_ble_eq_true rfl) ?_
  refine wp_aload_n d_Net_file_0 rfl 0 rfl ?_
  refine wp_iload_n d_Net_file_1 rfl 1 rfl ?_
  refine wp_callV (r := 0) d_Net_file_2 (link_V (as := [.int (nI x)]) (rest := []) (r := (R_Net, T_Net, 7)) d_Net_file_2 cal_Net_switchAt wM_Net_39 rfl (hN_o (hR.nt.1) (by decide)) rfl) cal_Net_switchAt (c_Net_switchAt hR hx) (Nat.le_of_ble_eq_true rfl) ⟨Nat.le_of_ble_eq_true rfl, Nat.le_of_ble_eq_true rfl⟩ ?_
  refine wp_pop d_Net_file_5 rfl ?_
  refine wp_iload_n d_Net_file_6 rfl 2 rfl ?_
  refine wp_if_ltN (tgt := 17) d_Net_file_7 (by decide) (by omega) ?_
  refine wp_iload_n d_Net_file_10 rfl 2 rfl ?_
  refine wp_sipush (v := nI 1600) d_Net_file_11 (by decide) ?_
  refine wp_leN (tgt := 27) d_Net_file_14 (by decide) (by omega) (by omega) (fun c14 => ?_) (fun c14 => ?_)
  · refine wp_aload_n d_Net_file_27 rfl 0 rfl ?_
    refine wn_get_Net d_Net_file_28 (hR.nt.1) 5 (by decide) wF_Net_103 rfl ?_
    refine wp_toI (z := (nI ((sMs s).length))) (hR.nt.2.2.2.2.2.2.1) ?_
    refine wp_sipush (v := nI 200) d_Net_file_31 (by decide) ?_
    refine wp_ltN (tgt := 47) d_Net_file_34 (by decide) (by omega) (by omega) (fun c34 => ?_) (fun c34 => ?_)
    · exact absurd c34 (by omega)
    · exact wp_throwS (x := 1) d_Net_file_37 d_Net_file_40 d_Net_file_41 d_Net_file_43 d_Net_file_46 th_Net_86 wE_Net_82 wS_Net_106 rfl ⟨Nat.le_of_ble_eq_true rfl, Nat.le_of_ble_eq_true rfl⟩ ⟨rfl, rfl⟩
  · exact absurd c14 (by omega)
set_option maxRecDepth 20000 in
theorem c_Net_fileF {G : Gt} {K N : Nat → Nat} {I : Nat → Nat → Int32} {R : Nat → Nat → Option Nat} {L : Nat → Nat → Int64} {E : Nat → Nat → Int32} {El : Nat → Nat → Int64} {Er : Nat → Nat → Option Nat} (hS : jOK G) {Γ : Gm} {ρ : Nat → Nat} {s : Sa} (hR : RepN Γ ρ K N I R L E El Er s) {x n : Nat} (hx : x < 6) (hn : n ≤ 1600) (hl : (sMs s).length < 200) {f : Nat × Nat} (hj : judge (gv (txtR (sLog s)) n) = .inr f) : CallE G m_Net_file 8 110 [.ref (Γ 0 0), .int (nI x), .int (nI n)] (hN K N I R L E El Er) 0 0 (some (.int (fltI f))) (NetOK (Γ 0 0) s) := by
  have hJ : Jd K N (u2 I 25 (Γ 0 1) (nI n)) R E (Γ 0 1) (Γ 0 2) (Γ 0 3) (txtR (sLog s)) n := ⟨hR.dr.1, hR.dr.2.1, hR.dr.2.2.1, hR.dr.2.2.2.1, hR.dr.2.2.2.2.1, hR.dr.2.2.2.2.2.1, hR.dr.2.2.2.2.2.2.1, hn, by rw [u2_at, if_pos rfl], hR.dr.2.2.2.2.2.2.2.2.2, txtR_lt _⟩
  have hg := c_Drf_isGood (G := G) (I := I) (L := L) (El := El) (Er := Er) hS hJ
  rw [hj, Sum.isLeft_inr] at hg
  refine CallS.of (Nat.le_of_ble_eq_true rfl) ?_
  refine wp_aload_n d_Net_file_0 rfl 0 rfl ?_
  refine wp_iload_n d_Net_file_1 rfl 1 rfl ?_
  refine wp_callV (r := 0) d_Net_file_2 (link_V (as := [.int (nI x)]) (rest := []) (r := (R_Net, T_Net, 7)) d_Net_file_2 cal_Net_switchAt wM_Net_39 rfl (hN_o (hR.nt.1) (by decide)) rfl) cal_Net_switchAt (c_Net_switchAt hR hx) (Nat.le_of_ble_eq_true rfl) ⟨Nat.le_of_ble_eq_true rfl, Nat.le_of_ble_eq_true rfl⟩ ?_
  refine wp_pop d_Net_file_5 rfl ?_
  refine wp_iload_n d_Net_file_6 rfl 2 rfl ?_
  refine wp_if_ltN (tgt := 17) d_Net_file_7 (by decide) (by omega) ?_
  refine wp_iload_n d_Net_file_10 rfl 2 rfl ?_
  refine wp_sipush (v := nI 1600) d_Net_file_11 (by decide) ?_
  refine wp_leN (tgt := 27) d_Net_file_14 (by decide) (by omega) (by omega) (fun c14 => ?_) (fun c14 => ?_)
  · refine wp_aload_n d_Net_file_27 rfl 0 rfl ?_
    refine wn_get_Net d_Net_file_28 (hR.nt.1) 5 (by decide) wF_Net_103 rfl ?_
    refine wp_toI (z := (nI ((sMs s).length))) (hR.nt.2.2.2.2.2.2.1) ?_
    refine wp_sipush (v := nI 200) d_Net_file_31 (by decide) ?_
    refine wp_ltN (tgt := 47) d_Net_file_34 (by decide) (by omega) (by omega) (fun c34 => ?_) (fun c34 => ?_)
    · refine wp_aload_n d_Net_file_47 rfl 0 rfl ?_
      refine wn_get_Net d_Net_file_48 (hR.nt.1) 0 (by decide) wF_Net_10 rfl ?_
      refine wp_toVR (o := some (Γ 0 1)) (z := .ref (Γ 0 1)) (hR.nt.2.1) rfl ?_
      refine wp_iload_n d_Net_file_51 rfl 2 rfl ?_
      refine wp_callEV (k' := 0) (n' := 0) (r := 0) d_Net_file_52 (link_V (as := [.int (nI n)]) (rest := []) (r := (R_Drf, T_Drf, 7)) d_Net_file_52 cal_Drf_isGood wM_Net_108 rfl (hN_o (hR.dr.1) (by decide)) rfl) cal_Drf_isGood (hg) (Nat.le_of_ble_eq_true rfl) ⟨Nat.le_of_ble_eq_true rfl, Nat.le_of_ble_eq_true rfl⟩ (fun h' q52 => ?_)
      obtain ⟨I1, El1, rfl, jp⟩ := q52
      have hR1 := hR.draft jp.1 jp.2.1
      refine wp_if_neB (tgt := 66) d_Net_file_55 (by decide) (fun c => absurd c (by decide)) (fun _ => ?_)
      refine wp_aload_n d_Net_file_58 rfl 0 rfl ?_
      refine wn_get_Net d_Net_file_59 (hR.nt.1) 0 (by decide) wF_Net_10 rfl ?_
      refine wp_toVR (o := some (Γ 0 1)) (z := .ref (Γ 0 1)) (hR.nt.2.1) rfl ?_
      refine wn_get_Drf d_Net_file_62 (hR.dr.1) 6 (by decide) wF_Net_112 rfl ?_
      refine wp_toI (z := (fltI f)) (jp.2.2.2.2 f rfl) ?_
      exact wp_iret d_Net_file_65 rfl ⟨rfl, hR1.ok⟩
    · exact absurd c34 (by omega)
  · exact absurd c14 (by omega)
set_option maxRecDepth 20000 in
theorem c_Net_fileG {G : Gt} {K N : Nat → Nat} {I : Nat → Nat → Int32} {R : Nat → Nat → Option Nat} {L : Nat → Nat → Int64} {E : Nat → Nat → Int32} {El : Nat → Nat → Int64} {Er : Nat → Nat → Option Nat} (hS : jOK G) {Γ : Gm} {ρ : Nat → Nat} {s : Sa} (hR : RepN Γ ρ K N I R L E El Er s) {n0 : Nat} (hV : Inv n0 s) {x n : Nat} (hx : x < 6) (hn : n ≤ 1600) (hl : (sMs s).length < 200) {p : Nat} {as : List (List Nat)} (hj : judge (gv (txtR (sLog s)) n) = .inl (p, as)) : CallE G m_Net_file 8 110 [.ref (Γ 0 0), .int (nI x), .int (nI n)] (hN K N I R L E El Er) (0 + 7 + (0 + 1 + 1 + 1)) (0 + 28 + (0 + as.length + 5 + n)) (some (.int (nI ((sMs s).length + 1)))) (NetOK (Γ 0 0) (comesS (addM s (p, as, n, (sLog s).length)) x ((sMs s).length + 1) (2 ^ as.length - 1) 0)) := by
  have hJ : Jd K N (u2 I 25 (Γ 0 1) (nI n)) R E (Γ 0 1) (Γ 0 2) (Γ 0 3) (txtR (sLog s)) n := ⟨hR.dr.1, hR.dr.2.1, hR.dr.2.2.1, hR.dr.2.2.2.1, hR.dr.2.2.2.2.1, hR.dr.2.2.2.2.2.1, hR.dr.2.2.2.2.2.2.1, hn, by rw [u2_at, if_pos rfl], hR.dr.2.2.2.2.2.2.2.2.2, txtR_lt _⟩
  have hg := c_Drf_isGood (G := G) (I := I) (L := L) (El := El) (Er := Er) hS hJ
  rw [hj, Sum.isLeft_inl] at hg
  refine CallS.of (Nat.le_of_ble_eq_true rfl) ?_
  refine wp_aload_n d_Net_file_0 rfl 0 rfl ?_
  refine wp_iload_n d_Net_file_1 rfl 1 rfl ?_
  refine wp_callV (r := 0) d_Net_file_2 (link_V (as := [.int (nI x)]) (rest := []) (r := (R_Net, T_Net, 7)) d_Net_file_2 cal_Net_switchAt wM_Net_39 rfl (hN_o (hR.nt.1) (by decide)) rfl) cal_Net_switchAt (c_Net_switchAt hR hx) (Nat.le_of_ble_eq_true rfl) ⟨Nat.le_of_ble_eq_true rfl, Nat.le_of_ble_eq_true rfl⟩ ?_
  refine wp_pop d_Net_file_5 rfl ?_
  refine wp_iload_n d_Net_file_6 rfl 2 rfl ?_
  refine wp_if_ltN (tgt := 17) d_Net_file_7 (by decide) (by omega) ?_
  refine wp_iload_n d_Net_file_10 rfl 2 rfl ?_
  refine wp_sipush (v := nI 1600) d_Net_file_11 (by decide) ?_
  refine wp_leN (tgt := 27) d_Net_file_14 (by decide) (by omega) (by omega) (fun c14 => ?_) (fun c14 => ?_)
  · refine wp_aload_n d_Net_file_27 rfl 0 rfl ?_
    refine wn_get_Net d_Net_file_28 (hR.nt.1) 5 (by decide) wF_Net_103 rfl ?_
    refine wp_toI (z := (nI ((sMs s).length))) (hR.nt.2.2.2.2.2.2.1) ?_
    refine wp_sipush (v := nI 200) d_Net_file_31 (by decide) ?_
    refine wp_ltN (tgt := 47) d_Net_file_34 (by decide) (by omega) (by omega) (fun c34 => ?_) (fun c34 => ?_)
    · refine wp_aload_n d_Net_file_47 rfl 0 rfl ?_
      refine wn_get_Net d_Net_file_48 (hR.nt.1) 0 (by decide) wF_Net_10 rfl ?_
      refine wp_toVR (o := some (Γ 0 1)) (z := .ref (Γ 0 1)) (hR.nt.2.1) rfl ?_
      refine wp_iload_n d_Net_file_51 rfl 2 rfl ?_
      refine wp_callEV (k' := 0) (n' := 0) (r := 0) d_Net_file_52 (link_V (as := [.int (nI n)]) (rest := []) (r := (R_Drf, T_Drf, 7)) d_Net_file_52 cal_Drf_isGood wM_Net_108 rfl (hN_o (hR.dr.1) (by decide)) rfl) cal_Drf_isGood (hg) (Nat.le_of_ble_eq_true rfl) ⟨Nat.le_of_ble_eq_true rfl, Nat.le_of_ble_eq_true rfl⟩ (fun h' q52 => ?_)
      obtain ⟨I1, El1, rfl, jp⟩ := q52
      have hR1 := hR.draft jp.1 jp.2.1
      refine wp_if_neB (tgt := 66) d_Net_file_55 (by decide) (fun _ => ?_) (fun c => absurd c (by decide))
      have ja := jp.2.2.2.1 p as rfl
      have hlen : (sMs (comesS (addM s (p, as, n, (sLog s).length)) x ((sMs s).length + 1) (2 ^ as.length - 1) 0)).length = (sMs s).length + 1 := by rw [(comesS_same (s := addM s (p, as, n, (sLog s).length)) (x := x) (m := ((sMs s).length + 1)) (set := 2 ^ as.length - 1) (by1 := 0) (addM_B (r := (p, as, n, (sLog s).length)) hV.B hl ⟨ja.2.1, ja.2.2.2.2.2.1, ja.2.2.2.2.1, ja.2.2.2.2.2.2, hn, Nat.le_refl _⟩).CI ⟨by omega, by show _ ≤ (sMs s ++ [_]).length; rw [List.length_append]; exact Nat.le_refl _⟩).2.2.1]; show (sMs s ++ [_]).length = _; rw [List.length_append]; rfl
      refine wp_aload_n d_Net_file_66 rfl 0 rfl ?_
      refine wn_get_Net d_Net_file_67 (hR.nt.1) 0 (by decide) wF_Net_10 rfl ?_
      refine wp_toVR (o := some (Γ 0 1)) (z := .ref (Γ 0 1)) (hR.nt.2.1) rfl ?_
      refine wp_callQ (k' := (0 + 1 + 1 + 1)) (n' := (0 + as.length + 5 + n)) (r := 0) d_Net_file_70 (link_V (as := []) (rest := []) (r := (R_Drf, T_Drf, 7)) d_Net_file_70 cal_Drf_toMessage wM_Net_115 rfl (hN_o (hR.dr.1) (by decide)) rfl) cal_Drf_toMessage (c_Drf_toMessage (G := G) hR1.df hR1.dr.1 hR1.dr.2.1 hR1.dr.2.2.1 hR1.dr.2.2.2.1 hR1.dr.2.2.2.2.1 hR1.dr.2.2.2.2.2.1 hR1.dr.2.2.2.2.2.2.1 jp.2.2.1 ja.2.2.1 ja.1 hn ja.2.2.2.2.1 (fun i hi => by rw [hR.dr.2.2.2.2.2.2.2.2.2 i hi]; exact b8_fit _ (txtR_lt _ _))) (Nat.le_of_ble_eq_true rfl) ⟨Nat.le_of_ble_eq_true rfl, Nat.le_of_ble_eq_true rfl⟩ (fun r70 h70 q70 => ?_)
      obtain ⟨qt, qm, qa, gt, ga, k1, k2, k3, n1, n2, n3, rfl, hgt, hga, rfl⟩ := q70
      have kk : ∀ q, K q ≠ 0 → (va_up (va_up (va_up K qt (20 + 2)) qm (9 + 1)) qa (20 + 1)) q = K q := fun q hq => by simp [va_up, dne2 k1 hq, dne2 k2 hq, dne2 k3 hq]
      have km : (va_up (va_up (va_up K qt (20 + 2)) qm (9 + 1)) qa (20 + 1)) qm = 9 + 1 := by simp [va_up, n3.symm]
      have ka : (va_up (va_up (va_up K qt (20 + 2)) qm (9 + 1)) qa (20 + 1)) qa = 20 + 1 := by simp [va_up]
      have nn : (va_up (va_up N qt n) qa as.length) (Γ 0 6) = 200 := by have h6 : K (Γ 0 6) ≠ 0 := knzA hR.nt.2.2.2.2.2.2.2.2.2.2.2.2.1; have h9 := hR.nt.2.2.2.2.2.2.2.2.2.2.2.2.2.1; simp [va_up, dne2 k1 h6, dne2 k3 h6, h9]
      have hc := file_come (G := G) (L := L) hR1 hV (x := x) (n := n) (p := p) (as := as) k1 k2 k3 n1 n2 n3 hl (fun i hi => (hgt i hi).trans (hR.dr.2.2.2.2.2.2.2.2.2 i (by omega))) (fun k a hk => (hga k (List.getElem?_eq_some_iff.mp hk).1).trans (ja.2.2.2.1 k a hk)) hx ⟨ja.2.1, ja.2.2.2.2.2.1, ja.2.2.2.2.1, ja.2.2.2.2.2.2, hn, Nat.le_refl _⟩
      refine ⟨qm, rfl, ?_⟩
      refine wp_astore_n (lv' := [(3, .ref qm), (0, .ref (Γ 0 0)), (1, .int (nI x)), (2, .int (nI n))]) d_Net_file_73 rfl (by decide) rfl ?_
      refine wp_aload_n d_Net_file_74 rfl 1 rfl ?_
      refine wn_get_Net d_Net_file_75 ((kk _ (knz hR.nt.1)).trans hR.nt.1) 3 (by decide) wF_Net_30 rfl ?_
      refine wp_toVR (o := some (Γ 0 6)) (z := .ref (Γ 0 6)) (by rw [u2r_ne _ _ (by decide), u2r_ne _ _ (by decide)]; exact hR.nt.2.2.2.2.1) rfl ?_
      refine wp_aload_n d_Net_file_78 rfl 1 rfl ?_
      refine wn_get_Net d_Net_file_79 ((kk _ (knz hR.nt.1)).trans hR.nt.1) 5 (by decide) wF_Net_103 rfl ?_
      refine wp_toI (z := (nI ((sMs s).length))) (by rw [u2_ne _ _ (by decide)]; exact hR1.nt.2.2.2.2.2.2.1) ?_
      refine wp_aload_n d_Net_file_82 rfl 0 rfl ?_
      refine wn_ast d_Net_file_83 ((kk _ (knzA hR.nt.2.2.2.2.2.2.2.2.2.2.2.2.1)).trans hR.nt.2.2.2.2.2.2.2.2.2.2.2.2.1) rfl (by decide) (km) (by decide) rfl (by rw [nn]; omega) (by rw [nn]; omega) ?_
      refine wp_aload_n d_Net_file_84 rfl 1 rfl ?_
      refine wp_dup d_Net_file_85 rfl ?_
      refine wn_get_Net d_Net_file_86 ((kk _ (knz hR.nt.1)).trans hR.nt.1) 5 (by decide) wF_Net_103 rfl ?_
      refine wp_toI (z := (nI ((sMs s).length))) (by rw [u2_ne _ _ (by decide)]; exact hR1.nt.2.2.2.2.2.2.1) ?_
      refine wp_iconst (v := nI 1) d_Net_file_89 (by decide) ?_
      refine wp_iaddN d_Net_file_90 ?_
      refine wn_put_Net (ty := t_Net 5) (I' := u2 (u2 I1 45 qm (nI p)) 5 (Γ 0 0) (nI (((sMs s).length) + 1))) (R' := u2r (u2r R 43 qm (some qt)) 44 qm (some qa)) (L' := L) d_Net_file_91 ((kk _ (knz hR.nt.1)).trans hR.nt.1) 5 (by decide) wF_Net_103 rfl (t_Net_ok 5 (by decide)) rfl rfl sF_5 (oI _ _ _ 5 _) ?_
      refine wp_aload_n d_Net_file_94 rfl 1 rfl ?_
      refine wp_iload_n d_Net_file_95 rfl 2 rfl ?_
      refine wp_aload_n d_Net_file_96 rfl 0 rfl ?_
      refine wp_aload_n d_Net_file_97 rfl 0 rfl ?_
      refine wp_callV (r := 3) d_Net_file_98 (link_V (as := []) (rest := [.ref qm, .int (nI x), .ref (Γ 0 0)]) (r := (R_Msg, T_Msg, 5)) d_Net_file_98 cal_Msg_allAddresses wM_Net_119 rfl (hN_o (km) (by decide)) rfl) cal_Msg_allAddresses (c_Msg_allAddresses km ka (by rw [u2r_at, if_pos rfl]) (na := as.length) (by simp [va_up]) ja.2.2.2.2.1) (Nat.le_of_ble_eq_true rfl) ⟨Nat.le_of_ble_eq_true rfl, Nat.le_of_ble_eq_true rfl⟩ ?_
      refine wp_iconst (v := -1) d_Net_file_101 (by decide) ?_
      refine wp_callEU (k' := 7) (n' := 28) (r := 0) d_Net_file_102 (link_V (as := [.int (nI x), .ref qm, .int (nI (2 ^ as.length - 1)), .int (-1)]) (rest := []) (r := (R_Net, T_Net, 7)) d_Net_file_102 cal_Net_comeTo wM_Net_123 rfl (hN_o ((kk _ (knz hR.nt.1)).trans hR.nt.1) (by decide)) rfl) cal_Net_comeTo (hc) (Nat.le_of_ble_eq_true rfl) ⟨Nat.le_of_ble_eq_true rfl, Nat.le_of_ble_eq_true rfl⟩ (fun h' q102 => ?_)
      obtain ⟨Γ2, ρ2, K2, N2, I2, R2, L2, E2, El2, Er2, rfl, hR2, hg2⟩ := q102
      have h5 := hR2.nt.2.2.2.2.2.2.1
      rw [hg2, hlen] at h5
      refine wp_aload_n d_Net_file_105 rfl 1 rfl ?_
      refine wn_get_Net d_Net_file_106 (by rw [← hg2]; exact hR2.nt.1) 5 (by decide) wF_Net_103 rfl ?_
      refine wp_toI (z := (nI ((sMs s).length + 1))) (h5) ?_
      exact wp_iret d_Net_file_109 rfl ⟨rfl, Γ2, ρ2, K2, N2, I2, R2, L2, E2, El2, Er2, rfl, hR2, hg2⟩
    · exact absurd c34 (by omega)
  · exact absurd c14 (by omega)
theorem n_Net_file {G : Gt} {K N : Nat → Nat} {I : Nat → Nat → Int32} {R : Nat → Nat → Option Nat} {L : Nat → Nat → Int64} {E : Nat → Nat → Int32} {El : Nat → Nat → Int64} {Er : Nat → Nat → Option Nat} {Γ : Gm} {ρ : Nat → Nat} {s : Sa} (hR : RepN Γ ρ K N I R L E El Er s) (hS : jOK G) {n0 : Nat} (hV : Inv n0 s) (x z : Int32) : CallN G m_Net_file 8 110 [.ref (Γ 0 0), .int x, .int z] (hN K N I R L E El Er) 10 1640 (stFile s x z) false (Γ 0 0) := by
  unfold stFile swB
  cases hx : inZ x (nI 0) (nI 5) with
  | false => exact CallN.ofT (c_Net_fileSX hR hx) (by decide) (by decide) (by decide) (by decide) rfl hR.okT
  | true =>
    obtain ⟨j, hj, rfl⟩ := inZ_of (by decide) hx
    cases hz : inZ z (nI 0) (nI 1600) with
    | false => exact CallN.ofT (c_Net_fileLX hR (show j < 6 by omega) hz) (by decide) (by decide) (by decide) (by decide) rfl hR.okT
    | true =>
      obtain ⟨n, hn, rfl⟩ := inZ_of (by decide) hz
      rw [Bool.and_self, if_pos rfl, nN_nI (by omega), nN_nI (by omega)]
      have hl2 := hV.2.1.2.2.2.2.2.2.1
      by_cases hl : (sMs s).length = 200
      · rw [if_pos hl]
        exact CallN.ofT (c_Net_fileMX hR (show j < 6 by omega) (show n ≤ 1600 by omega) hl) (by decide) (by decide) (by decide) (by decide) rfl hR.okT
      · rw [if_neg hl]
        cases hq : judge (gv (txtR (sLog s)) n) with
        | inr f => exact CallN.ofE (c_Net_fileF hS hR (show j < 6 by omega) (show n ≤ 1600 by omega) (by omega) hq) (by decide) (by decide) (by decide) (by decide) rfl (fun _ q => q)
        | inl q =>
          obtain ⟨p, as⟩ := q
          have h7 := (judge_ad hq).1
          exact CallN.ofE (c_Net_fileG hS hR hV (show j < 6 by omega) (show n ≤ 1600 by omega) (by omega) hq) (by decide) (by decide) (by decide) (by omega) rfl (fun _ q => q)
end Cls30
