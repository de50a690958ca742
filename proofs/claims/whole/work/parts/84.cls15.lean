section Cls15
theorem kpF_at {d : Ch} {k : Nat} (h : k < cKept d) : (kpF d)[k]? = some (0, (cSent d).length - cKept d + k + 1) := by
  unfold kpF
  rw [List.getElem?_map, List.getElem?_range h]
  rfl
theorem kpF_tl {d : Ch} (h : 0 < cKept d) (hk : cKept d ≤ (cSent d).length) : kpF d = (0, (cSent d).length - cKept d + 1) :: kpF (wKept d (cKept d - 1)) := by
  unfold kpF wKept
  obtain ⟨k, hk2⟩ : ∃ k, cKept d = k + 1 := ⟨cKept d - 1, by omega⟩
  rw [hk2, List.range_succ_eq_map, List.map_cons, List.map_map]
  refine congr (congrArg List.cons ?_) (List.map_congr_left fun i hi => ?_)
  · rfl
  · show (0, (cSent d).length - (k + 1) + (i + 1) + 1) = (0, (cSent d).length - (k + 1 - 1) + i + 1)
    congr 1
    omega
theorem kp_n {Γ : Gm} {K N : Nat → Nat} {I : Nat → Nat → Int32} {R Er : Nat → Nat → Option Nat} {f r cap : Nat} {sent : List (Nat × Nat)} {d : Ch} (h : RgF Γ K N I R Er f r cap sent (kpF d)) : I 37 f = nI (cKept d) := by rw [(rg_n h).2, kpF_n]
set_option maxRecDepth 20000 in
theorem c_Frs_indexOf {G : Gt} {K N : Nat → Nat} {I : Nat → Nat → Int32} {R : Nat → Nat → Option Nat} {L : Nat → Nat → Int64} {E : Nat → Nat → Int32} {El : Nat → Nat → Int64} {Er : Nat → Nat → Option Nat} {Γ : Gm} {ρ : Nat → Nat} {s : Sa} (hR : RepN Γ ρ K N I R L E El Er s) {c : Nat} (hc : c < 16) (hs : (sLn s (c / 2)).isSome = true) {se : Nat} (hkb : cKept (sCh s c) ≤ 20 ∧ cKept (sCh s c) ≤ (cSent (sCh s c)).length) (hsn : (cSent (sCh s c)).length < 999) (hse : se < 2 ^ 12) : CallR G m_Frs_indexOf 2 28 [.ref (Γ 10 c), .int (nI se)] (hN K N I R L E El Er) 0 0 (some (.int (amI (cSent (sCh s c)).length (cKept (sCh s c)) se))) (hN K N I R L E El Er) := by
  refine CallS.of (Nat.le_of_ble_eq_true rfl) ?_
  have L2 : ∀ (f k : Nat), cKept (sCh s c) - k < f → k ≤ cKept (sCh s c) → (∀ i, i < k → ¬ (cSent (sCh s c)).length - cKept (sCh s c) + i + 1 = se) → WP G m_Frs_indexOf (2, 28, 0, 0, (hN K N I R L E El Er), fun r9 h9 => r9 = .inl (some (.int (amI (cSent (sCh s c)).length (cKept (sCh s c)) se))) ∧ h9 = (hN K N I R L E El Er)) 2 [(2, .int (nI k)), (0, .ref (Γ 10 c)), (1, .int (nI se))] [] (hN K N I R L E El Er) 0 0 := by
    intro f
    induction f with
    | zero =>
      intro k h1
      omega
    | succ f ih =>
      intro k hf hk hne
      refine wp_iload_n d_Frs_indexOf_2 rfl 0 rfl ?_
      refine wp_aload_n d_Frs_indexOf_3 rfl 1 rfl ?_
      refine wn_get_Frs d_Frs_indexOf_4 ((rg_n ((hR.ri c hc hs).2.2.2.2.1)).1) 2 (by decide) wF_Frs_23 rfl ?_
      refine wp_toI (z := (nI (cKept (sCh s c)))) (kp_n ((hR.ri c hc hs).2.2.2.2.1)) ?_
      refine wp_geN (tgt := 36) d_Frs_indexOf_7 (by decide) (by omega) (by omega) (fun c7 => ?_) (fun c7 => ?_)
      · refine wp_iconst (v := -1) d_Frs_indexOf_36 (by decide) ?_
        exact wp_iret d_Frs_indexOf_37 rfl ⟨resI (by rw [amI, if_neg (fun q => hne (se - ((cSent (sCh s c)).length - cKept (sCh s c)) - 1) (by omega) (by omega))]), rfl⟩
      · obtain ⟨a, ka, fa, hat⟩ := ((hR.ri c hc hs).2.2.2.2.1).at (G := G) (L := L) (E := E) (El := El) (kpF_at (d := sCh s c) (k := k) (by omega))
        refine wp_aload_n d_Frs_indexOf_10 rfl 1 rfl ?_
        refine wp_iload_n d_Frs_indexOf_11 rfl 0 rfl ?_
        refine wp_callV (r := 0) d_Frs_indexOf_12 (link_V (as := [.int (nI k)]) (rest := []) (r := (R_Frs, T_Frs, 3)) d_Frs_indexOf_12 cal_Frs_frameAt wM_Frs_34 rfl (hN_o ((rg_n ((hR.ri c hc hs).2.2.2.2.1)).1) (by decide)) rfl) cal_Frs_frameAt (hat) (Nat.le_of_ble_eq_true rfl) ⟨Nat.le_of_ble_eq_true rfl, Nat.le_of_ble_eq_true rfl⟩ ?_
        refine wp_astore_n (lv' := [(3, .ref a), (2, .int (nI k)), (0, .ref (Γ 10 c)), (1, .int (nI se))]) d_Frs_indexOf_15 rfl (by decide) rfl ?_
        refine wp_aload_n d_Frs_indexOf_16 rfl 0 rfl ?_
        refine wp_ifnull d_Frs_indexOf_17 ?_
        refine wp_aload_n d_Frs_indexOf_20 rfl 0 rfl ?_
        refine wn_get_Frm d_Frs_indexOf_21 (ka) 0 (by decide) wF_Frs_38 rfl ?_
        refine wp_toI (z := (nI ((cSent (sCh s c)).length - cKept (sCh s c) + k + 1))) (fa.1) ?_
        refine wp_iload_n d_Frs_indexOf_24 rfl 3 rfl ?_
        refine wp_neN (tgt := 30) d_Frs_indexOf_25 (by decide) (by omega) (by omega) (fun c25 => ?_) (fun c25 => ?_)
        · refine wp_iinc (lv' := [(2, .int (nI (k + 1))), (3, .ref a), (0, .ref (Γ 10 c)), (1, .int (nI se))]) d_Frs_indexOf_30 1 rfl (nI_1 _) (by decide) rfl ?_
          refine wp_goto (tgt := 2) d_Frs_indexOf_33 (by decide) ?_
          refine wp_lv [0, 2, 3] rfl ?_
          exact ih (k + 1) (by omega) (by omega) (fun i hi => by rcases Nat.lt_or_ge i k with h | h; (exact hne i h); (obtain rfl : i = k := (by omega); omega))
        · refine wp_iload_n d_Frs_indexOf_28 rfl 1 rfl ?_
          exact wp_iret d_Frs_indexOf_29 rfl ⟨resI (by rw [amI, if_pos (by omega)]; exact congrArg nI (by omega)), rfl⟩
  refine wp_iconst (v := nI 0) d_Frs_indexOf_0 (by decide) ?_
  refine wp_istore_n (lv' := [(2, .int (nI 0)), (0, .ref (Γ 10 c)), (1, .int (nI se))]) d_Frs_indexOf_1 rfl (by decide) rfl ?_
  exact L2 21 0 (by omega) (by omega) (fun i hi => absurd hi (by omega))
set_option maxRecDepth 20000 in
theorem c_Chn_freeUpTo0 {G : Gt} {K N : Nat → Nat} {I : Nat → Nat → Int32} {R : Nat → Nat → Option Nat} {L : Nat → Nat → Int64} {E : Nat → Nat → Int32} {El : Nat → Nat → Int64} {Er : Nat → Nat → Option Nat} {Γ : Gm} {ρ : Nat → Nat} {s : Sa} (hR : RepN Γ ρ K N I R L E El Er s) {c : Nat} (hc : c < 16) (hs : (sLn s (c / 2)).isSome = true) {se : Nat} (hkb : cKept (sCh s c) ≤ 20 ∧ cKept (sCh s c) ≤ (cSent (sCh s c)).length) (hsn : (cSent (sCh s c)).length < 999) (hse : se < 2 ^ 12) (hx : ¬ ((cSent (sCh s c)).length - cKept (sCh s c) < se ∧ se ≤ (cSent (sCh s c)).length)) : CallE G m_Chn_freeUpTo 3 43 [.ref (Γ 7 c), .int (nI se)] (hN K N I R L E El Er) 0 0 none (NetK Γ (s) K I R) := by
  refine CallS.of (Nat.le_of_ble_eq_true rfl) ?_
  refine wp_aload_n d_Chn_freeUpTo_0 rfl 0 rfl ?_
  refine wn_get_Chn d_Chn_freeUpTo_1 ((hR.ci c hc hs).1) 1 (by decide) wF_Chn_22 rfl ?_
  refine wp_toVR (o := some (Γ 10 c)) (z := .ref (Γ 10 c)) ((hR.ci c hc hs).2.2.2.1) rfl ?_
  refine wp_iload_n d_Chn_freeUpTo_4 rfl 1 rfl ?_
  refine wp_callV (r := 0) d_Chn_freeUpTo_5 (link_V (as := [.int (nI se)]) (rest := []) (r := (R_Frs, T_Frs, 3)) d_Chn_freeUpTo_5 cal_Frs_indexOf wM_Chn_85 rfl (hN_o ((rg_n ((hR.ri c hc hs).2.2.2.2.1)).1) (by decide)) rfl) cal_Frs_indexOf (c_Frs_indexOf hR hc hs hkb hsn hse) (Nat.le_of_ble_eq_true rfl) ⟨Nat.le_of_ble_eq_true rfl, Nat.le_of_ble_eq_true rfl⟩ ?_
  refine wp_toI (z := (-1)) (by rw [amI, if_neg hx]) ?_
  refine wp_istore_n (lv' := [(2, .int (-1)), (0, .ref (Γ 7 c)), (1, .int (nI se))]) d_Chn_freeUpTo_8 rfl (by decide) rfl ?_
  refine wp_iconst (v := nI 0) d_Chn_freeUpTo_9 (by decide) ?_
  refine wp_istore_n (lv' := [(3, .int (nI 0)), (2, .int (-1)), (0, .ref (Γ 7 c)), (1, .int (nI se))]) d_Chn_freeUpTo_10 rfl (by decide) rfl ?_
  refine wp_iload_n d_Chn_freeUpTo_11 rfl 0 rfl ?_
  refine wp_iload_n d_Chn_freeUpTo_12 rfl 1 rfl ?_
  refine wp_icmp_gt (tgt := 30) d_Chn_freeUpTo_13 (by decide) (fun _ => ?_) (fun c => absurd c (by decide))
  exact wp_vret d_Chn_freeUpTo_30 rfl ⟨rfl, hR.k0⟩
set_option maxRecDepth 20000 in
theorem c_Chn_freeUpTo1 {G : Gt} {K N : Nat → Nat} {I : Nat → Nat → Int32} {R : Nat → Nat → Option Nat} {L : Nat → Nat → Int64} {E : Nat → Nat → Int32} {El : Nat → Nat → Int64} {Er : Nat → Nat → Option Nat} {Γ : Gm} {ρ : Nat → Nat} {s : Sa} (hR : RepN Γ ρ K N I R L E El Er s) {c : Nat} (hc : c < 16) (hs : (sLn s (c / 2)).isSome = true) {se : Nat} (hkb : cKept (sCh s c) ≤ 20 ∧ cKept (sCh s c) ≤ (cSent (sCh s c)).length) (hsn : (cSent (sCh s c)).length < 999) (hse : se < 2 ^ 12) (hx : (cSent (sCh s c)).length - cKept (sCh s c) < se ∧ se ≤ (cSent (sCh s c)).length) : CallE G m_Chn_freeUpTo 3 43 [.ref (Γ 7 c), .int (nI se)] (hN K N I R L E El Er) 0 0 none (NetK Γ (ch1 s c (wKept (sCh s c) ((cSent (sCh s c)).length - se))) K I R) := by
  refine CallS.of (Nat.le_of_ble_eq_true rfl) ?_
  have L2 : ∀ (f k : Nat) (I' : Nat → Nat → Int32) (s' : Sa), se - ((cSent (sCh s c)).length - cKept (sCh s c)) - 1 + 1 - k < f → k ≤ se - ((cSent (sCh s c)).length - cKept (sCh s c)) - 1 + 1 → RepN Γ ρ K N I' R L E El Er s' → Kp K I R K I' R → s' = ch1 s c (wKept (sCh s c) (cKept (sCh s c) - k)) → WP G m_Chn_freeUpTo (3, 43, 0, 0, (hN K N I R L E El Er), fun r9 h9 => r9 = .inl none ∧ (NetK Γ (ch1 s c (wKept (sCh s c) ((cSent (sCh s c)).length - se))) K I R) h9) 11 [(3, .int (nI k)), (2, .int (nI (se - ((cSent (sCh s c)).length - cKept (sCh s c)) - 1))), (0, .ref (Γ 7 c)), (1, .int (nI se))] [] (hN K N I' R L E El Er) 0 0 := by
    intro f
    induction f with
    | zero =>
      intro k I' s' h1 h2
      omega
    | succ f ih =>
      intro k I' s' hf hk hR' hkp he
      have hs' : (sLn s' (c / 2)).isSome = true := by rw [he]; exact hs
      have hkept : cKept (sCh s' c) = cKept (sCh s c) - k := by rw [he, ch1_at]; rfl
      have hsent : cSent (sCh s' c) = cSent (sCh s c) := by rw [he, ch1_at]; rfl
      refine wp_iload_n d_Chn_freeUpTo_11 rfl 0 rfl ?_
      refine wp_iload_n d_Chn_freeUpTo_12 rfl 1 rfl ?_
      refine wp_gtN (tgt := 30) d_Chn_freeUpTo_13 (by decide) (by omega) (by omega) (fun c13 => ?_) (fun c13 => ?_)
      · exact wp_vret d_Chn_freeUpTo_30 rfl ⟨rfl, _, _, _, _, _, _, _, _, _, rfl, by rw [he, show cKept (sCh s c) - k = (cSent (sCh s c)).length - se by omega] at hR'; exact hR', hkp⟩
      · obtain ⟨a, ka, fa, hat⟩ := RgF.take (G := G) (L := L) (E := E) (El := El) (show RgF Γ K N I' R Er (Γ 10 c) (Γ 11 c) 20 (cSent (sCh s' c)) ((0, (cSent (sCh s' c)).length - cKept (sCh s' c) + 1) :: kpF (wKept (sCh s' c) (cKept (sCh s' c) - 1))) by rw [← kpF_tl (by rw [hkept]; omega) (by rw [hkept, hsent]; omega)]; exact (hR'.ri c hc hs').2.2.2.2.1)
        refine wp_aload_n d_Chn_freeUpTo_16 rfl 2 rfl ?_
        refine wn_get_Chn d_Chn_freeUpTo_17 ((hR.ci c hc hs).1) 1 (by decide) wF_Chn_22 rfl ?_
        refine wp_toVR (o := some (Γ 10 c)) (z := .ref (Γ 10 c)) ((hR.ci c hc hs).2.2.2.1) rfl ?_
        refine wp_callEV (k' := 0) (n' := 0) (r := 0) d_Chn_freeUpTo_20 (link_V (as := []) (rest := []) (r := (R_Frs, T_Frs, 3)) d_Chn_freeUpTo_20 cal_Frs_takeFirst wM_Chn_88 rfl (hN_o ((rg_n ((hR.ri c hc hs).2.2.2.2.1)).1) (by decide)) rfl) cal_Frs_takeFirst (hat) (Nat.le_of_ble_eq_true rfl) ⟨Nat.le_of_ble_eq_true rfl, Nat.le_of_ble_eq_true rfl⟩ (fun h' q20 => ?_)
        obtain ⟨I2, rfl, h1, h2⟩ := q20
        rw [hsent] at h2
        have hR2 := hR'.kept (k := cKept (sCh s' c) - 1) hc hs' h1 (fE_refl) (by rw [hsent]; exact h2)
        refine wp_pop d_Chn_freeUpTo_23 rfl ?_
        refine wp_iinc (lv' := [(3, .int (nI (k + 1))), (2, .int (nI (se - ((cSent (sCh s c)).length - cKept (sCh s c)) - 1))), (0, .ref (Γ 7 c)), (1, .int (nI se))]) d_Chn_freeUpTo_24 0 rfl (nI_1 _) (by decide) rfl ?_
        refine wp_goto (tgt := 11) d_Chn_freeUpTo_27 (by decide) ?_
        exact ih (k + 1) _ _ (by omega) (by omega) hR2 (hkp.tr (Kp_f h1)) (by rw [he, ch1_at, ch1_ch1]; congr 1)
  refine wp_aload_n d_Chn_freeUpTo_0 rfl 0 rfl ?_
  refine wn_get_Chn d_Chn_freeUpTo_1 ((hR.ci c hc hs).1) 1 (by decide) wF_Chn_22 rfl ?_
  refine wp_toVR (o := some (Γ 10 c)) (z := .ref (Γ 10 c)) ((hR.ci c hc hs).2.2.2.1) rfl ?_
  refine wp_iload_n d_Chn_freeUpTo_4 rfl 1 rfl ?_
  refine wp_callV (r := 0) d_Chn_freeUpTo_5 (link_V (as := [.int (nI se)]) (rest := []) (r := (R_Frs, T_Frs, 3)) d_Chn_freeUpTo_5 cal_Frs_indexOf wM_Chn_85 rfl (hN_o ((rg_n ((hR.ri c hc hs).2.2.2.2.1)).1) (by decide)) rfl) cal_Frs_indexOf (c_Frs_indexOf hR hc hs hkb hsn hse) (Nat.le_of_ble_eq_true rfl) ⟨Nat.le_of_ble_eq_true rfl, Nat.le_of_ble_eq_true rfl⟩ ?_
  refine wp_toI (z := (nI (se - ((cSent (sCh s c)).length - cKept (sCh s c)) - 1))) (by rw [amI, if_pos hx]) ?_
  refine wp_istore_n (lv' := [(2, .int (nI (se - ((cSent (sCh s c)).length - cKept (sCh s c)) - 1))), (0, .ref (Γ 7 c)), (1, .int (nI se))]) d_Chn_freeUpTo_8 rfl (by decide) rfl ?_
  refine wp_iconst (v := nI 0) d_Chn_freeUpTo_9 (by decide) ?_
  refine wp_istore_n (lv' := [(3, .int (nI 0)), (2, .int (nI (se - ((cSent (sCh s c)).length - cKept (sCh s c)) - 1))), (0, .ref (Γ 7 c)), (1, .int (nI se))]) d_Chn_freeUpTo_10 rfl (by decide) rfl ?_
  exact L2 21 0 I s (by omega) (by omega) hR Kp_0 (by rw [show wKept (sCh s c) (cKept (sCh s c) - 0) = sCh s c from rfl, ch1_self])
end Cls15
