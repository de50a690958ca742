section Cls40
theorem nI_gap {L t : Nat} (hL : L ≤ 3584) (ht : t ≤ 512) : nI L - nI 7 < nI (7 * t) ↔ L < 7 * t + 7 := by
  rcases Nat.lt_or_ge L 7 with h | h
  · have h0 : nI L - nI 7 < nI 0 := by
      rcases (show L = 0 ∨ L = 1 ∨ L = 2 ∨ L = 3 ∨ L = 4 ∨ L = 5 ∨ L = 6 by omega) with rfl | rfl | rfl | rfl | rfl | rfl | rfl <;> decide
    refine ⟨fun _ => by omega, fun _ => Int32.lt_of_lt_of_le h0 ?_⟩
    rw [Int32.le_iff_toInt_le, nI_toInt (by decide), nI_toInt (by omega)]
    omega
  · rw [pk_sub h, Int32.lt_iff_toInt_lt, nI_toInt (by omega), nI_toInt (by omega)]
    omega
theorem and_15 (x : Int32) : ∃ w, w < 16 ∧ x &&& nI 15 = nI w := by
  obtain ⟨a, ha, rfl⟩ := wb_of32 x
  refine ⟨a % 16, Nat.mod_lt _ (by decide), ?_⟩
  apply Int32.toBitVec_inj.1
  show BitVec.ofNat 32 a &&& BitVec.ofNat 32 15 = BitVec.ofNat 32 (a % 16)
  apply BitVec.eq_of_toNat_eq
  rw [BitVec.toNat_and, BitVec.toNat_ofNat, BitVec.toNat_ofNat, BitVec.toNat_ofNat, show 15 % 2 ^ 32 = 2 ^ 4 - 1 from rfl, Nat.and_two_pow_sub_one_eq_mod]
  omega
set_option maxRecDepth 20000 in
theorem law_loop {G : Gt} {B : Bt} {b L o om out : Nat} {A : Nat → Nat} {xs : Nat → Int32} (hS : jOK G) (hI : mInj om A) (hX : va_X b L xs (Gs G) (Gs G).heap) (hb : b < (Gs G).heap.size) (hL : L ≤ 3584) (hB : 12 ≤ Bd B ∧ 220 ≤ Bw B) (hQ : ∀ h', BQ B (.inl (some (.int (nI 1)))) h') : ∀ (r t : Nat) (h : AHp), t + r = 512 → LJ t o om out A h → WP G m_Law_law B 23 [(4, .int (nI (7 * t))), (3, .ref out), (2, .ref om), (1, .ref o), (0, .ref b)] [] h (lawK r) (lawN r) := by
  intro r
  induction r with
  | zero =>
    intro t h ht hJ
    refine wp_iload d_Law_law_23 0 rfl ?_
    refine wp_aload_n d_Law_law_25 rfl 4 rfl ?_
    refine wp_slX d_Law_law_26 hX hb ?_
    refine wp_bipush (v := nI 7) d_Law_law_27 (by decide) ?_
    refine wp_isub d_Law_law_29 ?_
    refine wp_icmp_gt (tgt := 1121) d_Law_law_30 (by decide) (fun _ => ?_) (fun c => absurd ((nI_gap hL (by omega)).mpr (by omega)) c)
    refine wp_iconst (v := nI 1) d_Law_law_1121 (by decide) ?_
    exact wp_zret (ty := .boolean) d_Law_law_1122 rfl rfl (hQ _)
  | succ r ih =>
    intro t h ht hJ
    refine wp_iload d_Law_law_23 0 rfl ?_
    refine wp_aload_n d_Law_law_25 rfl 4 rfl ?_
    refine wp_slX d_Law_law_26 hX hb ?_
    refine wp_bipush (v := nI 7) d_Law_law_27 (by decide) ?_
    refine wp_isub d_Law_law_29 ?_
    refine wp_icmp_gt (tgt := 1121) d_Law_law_30 (by decide) (fun _ => ?_) (fun c => ?_)
    · refine wp_iconst (v := nI 1) d_Law_law_1121 (by decide) ?_
      exact wp_zret (ty := .boolean) d_Law_law_1122 rfl rfl (hQ _)
    have h7 : 7 * t + 7 ≤ L := Nat.not_lt.mp (fun z => c ((nI_gap hL (by omega)).mpr z))
    refine wp_aload_n d_Law_law_33 rfl 4 rfl ?_
    refine wp_iload d_Law_law_34 0 rfl ?_
    refine wp_sild d_Law_law_36 hX hb (by omega) hL ?_
    refine wp_bipush (v := nI 15) d_Law_law_37 (by decide) ?_
    refine wp_iand d_Law_law_39 ?_
    obtain ⟨w, hw, ew⟩ := and_15 (xs (7 * t))
    refine wp_toI (z := nI w) ew ?_
    have LP : ∀ h', LJ (t + 1) o om out A h' → WP G m_Law_law B 1115 [(4, .int (nI (7 * t))), (3, .ref out), (2, .ref om), (1, .ref o), (0, .ref b)] [] h' (lawK r) (lawN r) := fun h' hJ' => by
      refine wp_iinc (lv' := [(4, .int (nI (7 * (t + 1)))), (3, .ref out), (2, .ref om), (1, .ref o), (0, .ref b)]) d_Law_law_1115 0 rfl (by rw [show Int32.ofInt 7 = nI 7 from rfl, nI_add]; rfl) (by decide) rfl ?_
      refine wp_goto (tgt := 23) d_Law_law_1118 (by decide) ?_
      exact ih (t + 1) h' (by omega) hJ'
    have hk : lawK (r + 1) = lawK r + stepK t := by rw [lawK, show 511 - r = t by omega]
    have hn : lawN (r + 1) = lawN r + stepN t := by rw [lawN, show 511 - r = t by omega]
    rw [hk, hn]
    clear ew
    match w, hw with
    | 0, _ => exact wp_tableIn (tgt := 112) d_Law_law_40 (by decide) (by decide) rfl (by decide) (lc_line hS hI hX hb hL h7 hB hJ LP)
    | 1, _ => exact wp_tableIn (tgt := 172) d_Law_law_40 (by decide) (by decide) rfl (by decide) (lc_route hS hI hX hb hL h7 hB hJ LP)
    | 2, _ => exact wp_tableIn (tgt := 270) d_Law_law_40 (by decide) (by decide) rfl (by decide) (lc_put hS hI hX hb hL h7 hB hJ LP)
    | 3, _ => exact wp_tableIn (tgt := 318) d_Law_law_40 (by decide) (by decide) rfl (by decide) (lc_file hS hI hX hb hL h7 hB hJ LP)
    | 4, _ => exact wp_tableIn (tgt := 386) d_Law_law_40 (by decide) (by decide) rfl (by decide) (lc_send hS hI hX hb hL h7 hB hJ LP)
    | 5, _ => exact wp_tableIn (tgt := 454) d_Law_law_40 (by decide) (by decide) rfl (by decide) (lc_carry hS hI hX hb hL h7 hB hJ LP)
    | 6, _ => exact wp_tableIn (tgt := 522) d_Law_law_40 (by decide) (by decide) rfl (by decide) (lc_disturb hS hI hX hb hL h7 hB hJ LP)
    | 7, _ =>
      refine wp_tableIn (tgt := 609) d_Law_law_40 (by decide) (by decide) rfl (by decide) ?_
      by_cases hz : xs (7 * t + 2) = 0
      · exact lc_serve0 hS hI hX hb hL h7 hB hz hJ LP
      · exact lc_serve1 hS hI hX hb hL h7 hB hz hJ LP
    | 8, _ => exact wp_tableIn (tgt := 700) d_Law_law_40 (by decide) (by decide) rfl (by decide) (lc_time hS hI hX hb hL h7 hB hJ LP)
    | 9, _ => exact wp_tableIn (tgt := 756) d_Law_law_40 (by decide) (by decide) rfl (by decide) (lc_delivered hS hI hX hb hL h7 hB hJ LP)
    | 10, _ => exact wp_tableIn (tgt := 812) d_Law_law_40 (by decide) (by decide) rfl (by decide) (lc_read hS hI hX hb hL h7 hB hJ LP)
    | 11, _ => exact wp_tableIn (tgt := 892) d_Law_law_40 (by decide) (by decide) rfl (by decide) (lc_arrived hS hI hX hb hL h7 hB hJ LP)
    | 12, _ => exact wp_tableIn (tgt := 967) d_Law_law_40 (by decide) (by decide) rfl (by decide) (lc_channel hS hI hX hb hL h7 hB hJ LP)
    | 13, _ => exact wp_tableIn (tgt := 1047) d_Law_law_40 (by decide) (by decide) rfl (by decide) (lc_count hS hI hX hb hL h7 hB hJ LP)
    | 14, _ =>
      refine wp_tableOut (tgt := 1115) d_Law_law_40 (by decide) (by decide) ?_
      refine wp_bud (k' := lawK r) (n' := lawN r) (Nat.le_add_right _ _) (Nat.le_add_right _ _) ?_
      obtain ⟨s, hc, v, Fi, M, Ml, e1, e2, e3, e4, e5, e6, e7⟩ := hJ
      exact LP _ ⟨s, hc, v, Fi, M, Ml, e1, e2, e3, e4, e5, Inv_mono e6 (by omega), by omega⟩
    | 15, _ =>
      refine wp_tableOut (tgt := 1115) d_Law_law_40 (by decide) (by decide) ?_
      refine wp_bud (k' := lawK r) (n' := lawN r) (Nat.le_add_right _ _) (Nat.le_add_right _ _) ?_
      obtain ⟨s, hc, v, Fi, M, Ml, e1, e2, e3, e4, e5, e6, e7⟩ := hJ
      exact LP _ ⟨s, hc, v, Fi, M, Ml, e1, e2, e3, e4, e5, Inv_mono e6 (by omega), by omega⟩
    | w + 16, h => exact absurd h (by omega)
theorem hN_none : hN (fun _ => 0) (fun _ => 0) (fun _ _ => 0) (fun _ _ => none) (fun _ _ => 0) (fun _ _ => 0) (fun _ _ => 0) (fun _ _ => none) = fun _ => none := by
  funext q
  exact hN_0.mpr rfl
theorem hup_hor {h : AHp} {q : Nat} {x : AObj} (hq : h q = none) : hup h q x = hor h (hup (fun _ => none) q x) := by
  funext p
  by_cases hp : p = q
  · subst hp
    rw [hup_eq, hor_r hq, hup_eq]
  · rw [hup_ne hp]
    cases hh : h p with
    | none => rw [hor_r hh, hup_ne hp]
    | some z => rw [hor_l hh]
theorem dj_one {h : AHp} {q : Nat} {x : AObj} (hq : h q = none) : Dj h (hup (fun _ => none) q x) := fun p hp => hup_ne (fun e => hp (by rw [e]; exact hq))
theorem hup_hor2 {h f : AHp} {q : Nat} {x : AObj} (hh : h q = none) : hup (hor h f) q x = hor (hor h (hup (fun _ => none) q x)) f := by
  funext p
  by_cases hp : p = q
  · subst hp
    have : hor h (hup (fun _ => none) p x) p = some x := by rw [hor_r hh, hup_eq]
    rw [hup_eq, hor_l this]
  · rw [hup_ne hp]
    cases h1 : h p with
    | none =>
      have : hor h (hup (fun _ => none) q x) p = none := by rw [hor_r h1, hup_ne hp]
      rw [hor_r h1, hor_r this]
    | some z =>
      have : hor h (hup (fun _ => none) q x) p = some z := hor_l h1
      rw [hor_l h1, hor_l this]
theorem fMp_d : ∀ j, j < 43 → defaultValue (t_Mod j) = vp_V (fMp 0 (fun _ => 0)) j := by decide +kernel
theorem c_Mod_init2 {G : Gt} {o : Nat} {A0 : Nat → Nat} : CallE G m_Mod_init 1 12 [.ref o] (hMp o 0 A0) 33 27293 none (fun h' => ∃ A, mInj o A ∧ h' = hM o A (fun _ => 0) (fun _ _ => 0) (fun _ _ => 0)) := CallS.mono c_Mod_init (Nat.le_refl _) (Nat.le_refl _) (by decide) (by decide) (fun _ _ z => z)
set_option maxRecDepth 20000 in
theorem law_b4 {G : Gt} {B : Bt} {b L : Nat} {xs : Nat → Int32} (hS : jOK G) (hX : va_X b L xs (Gs G) (Gs G).heap) (hb : b < (Gs G).heap.size) (hL : L ≤ 3584) (hB : 12 ≤ Bd B ∧ 220 ≤ Bw B) (hQ : ∀ h', BQ B (.inl (some (.int (nI 1)))) h') {kl nl : Nat} (hkl : lawK 512 ≤ kl) (hnl : lawN 512 ≤ nl) {o om out : Nat} {A : Nat → Nat} {hc : AHp} (hI : mInj om A) (ok : NetOK o sa0 hc) (dj1 : Dj (hM om A (fun _ => 0) (fun _ _ => 0) (fun _ _ => 0)) hc) (hout : hor hc (hM om A (fun _ => 0) (fun _ _ => 0) (fun _ _ => 0)) out = none) : WP G m_Law_law B 19 [(2, .ref om), (1, .ref o), (0, .ref b)] [.ref out] (hup (hor hc (hM om A (fun _ => 0) (fun _ _ => 0) (fun _ _ => 0))) out (.inl (1, 1, .inr (.inl fun _ => 0)))) kl nl := by
  have ho1 : hc out = none := Classical.byContradiction fun z => by
    cases hz : hc out with
    | none => exact z hz
    | some w => rw [hor_l hz] at hout; cases hout
  have ho2 : hM om A (fun _ => 0) (fun _ _ => 0) (fun _ _ => 0) out = none := by rw [hor_r ho1] at hout; exact hout
  rw [hup_hor2 ho1]
  refine wp_astore_n (lv' := [(3, .ref out), (2, .ref om), (1, .ref o), (0, .ref b)]) d_Law_law_19 rfl (by decide) rfl ?_
  refine wp_iconst (v := nI 0) d_Law_law_20 (by decide) ?_
  refine wp_istore (lv' := [(4, .int (nI (7 * 0))), (3, .ref out), (2, .ref om), (1, .ref o), (0, .ref b)]) d_Law_law_21 (by decide) rfl ?_
  refine wp_bud hkl hnl ?_
  have hJ : LJ 0 o om out A (hor (hor hc (hO out (fun _ => 0))) (hM om A (fun _ => 0) (fun _ _ => 0) (fun _ _ => 0))) := by
    refine ⟨sa0, hc, fun _ => 0, fun _ => 0, fun _ _ => 0, fun _ _ => 0, rfl, dj_one ho1, ?_, ok, repM_0, Inv_0, Nat.le_refl _⟩
    intro q hq
    rcases hor_dom hq with h9 | h9
    · exact dj1.symm q h9
    · have : q = out := hs1_d q h9
      rw [this]
      exact ho2
  exact law_loop hS hI hX hb hL hB hQ 512 0 _ (Nat.zero_add _) hJ
set_option maxRecDepth 20000 in
theorem law_b3 {G : Gt} {B : Bt} {b L : Nat} {xs : Nat → Int32} (hS : jOK G) (hX : va_X b L xs (Gs G) (Gs G).heap) (hb : b < (Gs G).heap.size) (hL : L ≤ 3584) (hB : 12 ≤ Bd B ∧ 220 ≤ Bw B) (hQ : ∀ h', BQ B (.inl (some (.int (nI 1)))) h') {kl nl : Nat} (hkl : lawK 512 ≤ kl) (hnl : lawN 512 ≤ nl) {o om : Nat} {A : Nat → Nat} {hc : AHp} (hI : mInj om A) (ok : NetOK o sa0 hc) (dj1 : Dj (hM om A (fun _ => 0) (fun _ _ => 0) (fun _ _ => 0)) hc) : WP G m_Law_law B 15 [(1, .ref o), (0, .ref b)] [.ref om] (hor hc (hM om A (fun _ => 0) (fun _ _ => 0) (fun _ _ => 0))) (kl + 1) (nl + 1) := by
  refine wp_astore_n (lv' := [(2, .ref om), (1, .ref o), (0, .ref b)]) d_Law_law_15 rfl (by decide) rfl ?_
  refine wp_iconst (v := nI 1) d_Law_law_16 (by decide) ?_
  refine wp_newa (t := 1) (N := 1) (a0 := (1, .inr (.inl fun _ => 0))) d_Law_law_17 rfl rfl (fun C h9 => by cases h9) wCa_J (fun cA => rfl) (by decide) (by decide) (by decide) (fun out hout => ?_)
  exact law_b4 hS hX hb hL hB hQ hkl hnl hI ok dj1 hout
set_option maxRecDepth 20000 in
theorem law_b2 {G : Gt} {B : Bt} {b L : Nat} {xs : Nat → Int32} (hS : jOK G) (hX : va_X b L xs (Gs G) (Gs G).heap) (hb : b < (Gs G).heap.size) (hL : L ≤ 3584) (hB : 12 ≤ Bd B ∧ 220 ≤ Bw B) (hQ : ∀ h', BQ B (.inl (some (.int (nI 1)))) h') {kl nl : Nat} (hkl : lawK 512 ≤ kl) (hnl : lawN 512 ≤ nl) {o : Nat} {hc : AHp} (ok : NetOK o sa0 hc) : WP G m_Law_law B 7 [(0, .ref b)] [.ref o] hc (kl + 1 + 33 + 1) (nl + 1 + 27293 + 43) := by
  refine wp_astore_n (lv' := [(1, .ref o), (0, .ref b)]) d_Law_law_7 rfl (by decide) rfl ?_
  refine wp_new (C := R_Mod) (T := T_Mod) (N := 43) (ci := 11) (fs := fMp 0 (fun _ => 0)) d_Law_law_8 rfl g_Mod t_Mod t_Mod_ok wC_Law_65 fMp_d (fun om hom => ?_)
  rw [hup_hor hom, ← hMp_0]
  have dj0 : Dj hc (hMp om 0 (fun _ => 0)) := by rw [hMp_0]; exact dj_one hom
  rw [hor_comm dj0]
  refine wp_dup d_Law_law_11 rfl ?_
  have hC := CallS.frame (c_Mod_init2 (G := G) (o := om) (A0 := fun _ => 0)) dj0.symm
  refine wp_call (k' := 33) (n' := 27293) (r := 1) d_Law_law_12 (link_I (as := []) (rest := [.ref om]) d_Law_law_12 cal_Mod_init rfl wM_Law_67 rfl) cal_Mod_init hC (Nat.le_of_ble_eq_true rfl) ⟨Nat.le_trans (Nat.le_of_ble_eq_true rfl) hB.1, Nat.le_trans (Nat.le_of_ble_eq_true rfl) hB.2⟩ (fun v h' hq => ?_) (fun x h' hq => ?_)
  · obtain ⟨h1, ⟨e1, A, hI, rfl⟩, rfl, dj1⟩ := hq
    cases e1
    rw [hor_comm dj1]
    exact law_b3 hS hX hb hL hB hQ hkl hnl hI ok dj1
  · obtain ⟨h1, ⟨e1, -⟩, -⟩ := hq
    cases e1
set_option maxRecDepth 20000 in
theorem law_b1 {G : Gt} {B : Bt} {b L : Nat} {xs : Nat → Int32} (hS : jOK G) (hX : va_X b L xs (Gs G) (Gs G).heap) (hb : b < (Gs G).heap.size) (hL : L ≤ 3584) (hB : 12 ≤ Bd B ∧ 220 ≤ Bw B) (hQ : ∀ h', BQ B (.inl (some (.int (nI 1)))) h') {kl nl : Nat} (hkl : lawK 512 ≤ kl) (hnl : lawN 512 ≤ nl) {o : Nat} (hD0 : DF (fun _ => 0) (fun _ _ => 0) (fun _ _ => none) (fun _ _ => 0) (fun _ _ => 0) (fun _ _ => 0) (fun _ _ => none)) : WP G m_Law_law B 4 [(0, .ref b)] [.ref o, .ref o] (hN (va_up (fun _ => 0) o (0 + 1)) (fun _ => 0) (fun _ _ => 0) (fun _ _ => none) (fun _ _ => 0) (fun _ _ => 0) (fun _ _ => 0) (fun _ _ => none)) (kl + 1 + 33 + 1 + (0 + 24 + 1 + 1 + 1 + 1 + (0 + 1 + 1) + 1)) (nl + 1 + 27293 + 43 + (0 + 1362 + 8 + 200 + 8 + 6 + (0 + 7 + 1600) + 7)) := by
  have hC := c_Net_init (G := G) (o := o) (N := fun _ => 0) (fun _ => 0) (DF.pK (q := o) (v := 0 + 1) hD0 (by decide)) (kat _ _ _) (fun _ => rfl)
  refine wp_callEU (k' := (0 + 24 + 1 + 1 + 1 + 1 + (0 + 1 + 1) + 1)) (n' := (0 + 1362 + 8 + 200 + 8 + 6 + (0 + 7 + 1600) + 7)) (r := 1) d_Law_law_4 (link_I (as := []) (rest := [.ref o]) d_Law_law_4 cal_Net_init rfl wM_Law_64 rfl) cal_Net_init hC (Nat.le_of_ble_eq_true rfl) ⟨Nat.le_trans (Nat.le_of_ble_eq_true rfl) hB.1, Nat.le_trans (Nat.le_of_ble_eq_true rfl) hB.2⟩ (fun hc ok => ?_)
  exact law_b2 hS hX hb hL hB hQ hkl hnl ok
set_option maxRecDepth 20000 in
theorem law_body {G : Gt} {B : Bt} {b L : Nat} {xs : Nat → Int32} (hS : jOK G) (hX : va_X b L xs (Gs G) (Gs G).heap) (hb : b < (Gs G).heap.size) (hL : L ≤ 3584) (hB : 12 ≤ Bd B ∧ 220 ≤ Bw B) (hQ : ∀ h', BQ B (.inl (some (.int (nI 1)))) h') {kl nl : Nat} (hkl : lawK 512 ≤ kl) (hnl : lawN 512 ≤ nl) : WP G m_Law_law B 0 [(0, .ref b)] [] (fun _ => none) (kl + 1 + 33 + 1 + (0 + 24 + 1 + 1 + 1 + 1 + (0 + 1 + 1) + 1) + 1) (nl + 1 + 27293 + 43 + (0 + 1362 + 8 + 200 + 8 + 6 + (0 + 7 + 1600) + 7) + 7) := by
  have hD0 : DF (fun _ => 0) (fun _ _ => 0) (fun _ _ => none) (fun _ _ => 0) (fun _ _ => 0) (fun _ _ => 0) (fun _ _ => none) := fun q _ => ⟨fun _ => rfl, fun _ => rfl, fun _ => rfl, fun _ => rfl, fun _ => rfl, fun _ => rfl⟩
  rw [← hN_none]
  refine wn_new_Net d_Law_law_0 wC_Law_8 hD0 (fun o ho => ?_)
  refine wp_dup d_Law_law_3 rfl ?_
  exact law_b1 hS hX hb hL hB hQ hkl hnl hD0
theorem law_call {G : Gt} {b L : Nat} {xs : Nat → Int32} (hS : jOK G) (hX : va_X b L xs (Gs G) (Gs G).heap) (hb : b < (Gs G).heap.size) (hL : L ≤ 3584) : CallS G m_Law_law 15 580 [.ref b] (fun _ => none) 601024 7293034 (fun r _ => r = .inl (some (.int (nI 1)))) := by
  refine CallS.of (Nat.le_of_ble_eq_true rfl) ?_
  exact wp_bud (by decide) (by decide) (law_body hS hX hb hL ⟨by decide, by decide⟩ (fun _ => rfl) lawK_512 lawN_512)
end Cls40
