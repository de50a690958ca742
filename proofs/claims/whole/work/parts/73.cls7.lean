section Cls7
theorem str_SDFGK : ("SDFGK".toList.map Char.toNat) = [83, 68, 70, 71, 75] := by decide +kernel
theorem str_NNNN : ("NNNN".toList.map Char.toNat) = [78, 78, 78, 78] := by decide +kernel
theorem str_signs : (" -?:().,'/+=".toList.map Char.toNat) = [32, 45, 63, 58, 40, 41, 46, 44, 39, 47, 43, 61] := by decide +kernel
theorem wp_ldcSW {G : Gt} {y : Mi} {B : Bt} {pc : Nat} {lv : List (Nat × Value)} {st : List Value} {h : AHp} {k n : Nat} {idx : Nat} {tx : String} (hd : decode (mB y) pc = .ok (.ldc_w idx, 3)) (hs : Cond.stringRef (mN y).cls idx tx ∈ lw_tbl) (kk : ∀ a : Nat, vk_R (mN y).cls idx tx a (Gs G) → strOK (Gs G) a (tx.toList.map Char.toNat) → WP G y B (pc + 3) lv (.ref a :: st) h k n) : WP G y B pc lv st h k n := by
  intro p e R s m args below meth c hF H locs ls cells slots hP T hT X
  obtain ⟨hx, hb, -, -, hown, -, -, -, hamb, -, -, -, -, hG⟩ := id hF
  obtain ⟨a, ha, hst⟩ := hG.2.2.2.2.2.2 _ _ _ hs
  have hZ := vk_R.warm hamb.1 ha
  obtain ⟨t, a1, b1⟩ := kk a ha hst p e R s m args below meth c hF H locs ls cells slots hP T hT X
  exact ⟨t, X.ldcStringW hx hown (text := tx) (a := a) hZ.1 hZ.2 (g := F0 m pc ls st) rfl (by rw [hb]; exact hd) t a1, b1⟩
theorem rk_idx : ∀ c : Nat, c < 256 → idxI [83, 68, 70, 71, 75] c = rkI (c : Int) := by decide +kernel
theorem sg_idx : ∀ c : Nat, c < 256 → isLet (c : Int) = false → isDig (c : Int) = false → (idxI [32, 45, 63, 58, 40, 41, 46, 44, 39, 47, 43, 61] c < 0 ↔ isSgn (c : Int) = false) := by decide +kernel
theorem gv_nat {t : Nat → Nat} (ht : ∀ p, t p < 256) {ln p : Nat} (h : ¬ gI t ln p < 0) : p < ln ∧ gv t ln p = ((t p : Nat) : Int) ∧ gI t ln p = nI (t p) := by
  rcases Nat.lt_or_ge p ln with h1 | h1
  · exact ⟨h1, by unfold gv; rw [if_pos h1], (gI_in h1).symm⟩
  · rw [← gI_out (t := t) h1] at h
    exact absurd (by decide) h
theorem gv_m1 {t : Nat → Nat} {ln p : Nat} (ht : ∀ p, t p < 256) (h : gI t ln p < 0) : gv t ln p = -1 ∧ ln ≤ p := by
  rcases Nat.lt_or_ge p ln with h1 | h1
  · rw [← gI_in (t := t) h1] at h
    exact absurd h (nI_pos (by have := ht p; omega))
  · exact ⟨by unfold gv; rw [if_neg (by omega)], h1⟩
theorem gI_m1 {t : Nat → Nat} (ht : ∀ p, t p < 256) (ln p : Nat) : gI t ln p = -1 ↔ gv t ln p = -1 := by
  rw [← Int32.toInt_inj, gI_toInt ht]
  exact Iff.rfl
set_option maxRecDepth 20000 in
theorem c_Net_isSign {G : Gt}  {h : AHp} {t : Nat → Nat} (hS : jOK G) (ht : ∀ p, t p < 256) (ln p : Nat) : CallR G m_Net_isSign 4 59 [.int (gI t ln p)] h 0 0 (some (.int (bI (isSgn (gv t ln p))))) h := by
  refine CallS.of (Nat.le_of_ble_eq_true rfl) ?_
  refine wp_iload_n d_Net_isSign_0 rfl 0 rfl ?_
  refine wp_callV (r := 0) d_Net_isSign_1 (link_S (av := [.int (gI t ln p)]) (rest := []) d_Net_isSign_1 cal_Net_isLetter wM_Net_351 rfl) cal_Net_isLetter (c_Net_isLetterG ht _ _) (Nat.le_of_ble_eq_true rfl) ⟨Nat.le_of_ble_eq_true rfl, Nat.le_of_ble_eq_true rfl⟩ ?_
  refine wp_if_neB (tgt := 29) d_Net_isSign_4 (by decide) (fun c4 => ?_) (fun c4 => ?_)
  · refine wp_iconst (v := nI 1) d_Net_isSign_29 (by decide) ?_
    refine wp_goto (tgt := 34) d_Net_isSign_30 (by decide) ?_
    exact wp_zret (ty := .boolean) d_Net_isSign_34 rfl rfl ⟨resI (bI_one (by first | (simp [isSgn, c4]; done) | (simp [isSgn, c11]; done) | (rw [e2]; cases hz : isSgn ((t p : Nat) : Int) with | true => rfl | false => exact absurd ((sg_idx _ (ht p) (by rw [← e2]; exact c4) (by rw [← e2]; exact c11)).mpr hz) c26))), rfl⟩
  · refine wp_iload_n d_Net_isSign_7 rfl 0 rfl ?_
    refine wp_callV (r := 0) d_Net_isSign_8 (link_S (av := [.int (gI t ln p)]) (rest := []) d_Net_isSign_8 cal_Net_isDigit wM_Net_354 rfl) cal_Net_isDigit (c_Net_isDigitG ht _ _) (Nat.le_of_ble_eq_true rfl) ⟨Nat.le_of_ble_eq_true rfl, Nat.le_of_ble_eq_true rfl⟩ ?_
    refine wp_if_neB (tgt := 29) d_Net_isSign_11 (by decide) (fun c11 => ?_) (fun c11 => ?_)
    · refine wp_iconst (v := nI 1) d_Net_isSign_29 (by decide) ?_
      refine wp_goto (tgt := 34) d_Net_isSign_30 (by decide) ?_
      exact wp_zret (ty := .boolean) d_Net_isSign_34 rfl rfl ⟨resI (bI_one (by first | (simp [isSgn, c4]; done) | (simp [isSgn, c11]; done) | (rw [e2]; cases hz : isSgn ((t p : Nat) : Int) with | true => rfl | false => exact absurd ((sg_idx _ (ht p) (by rw [← e2]; exact c4) (by rw [← e2]; exact c11)).mpr hz) c26))), rfl⟩
    · refine wp_iload_n d_Net_isSign_14 rfl 0 rfl ?_
      refine wp_if_lt (tgt := 33) d_Net_isSign_15 (by decide) (fun c15 => ?_) (fun c15 => ?_)
      · refine wp_iconst (v := nI 0) d_Net_isSign_33 (by decide) ?_
        exact wp_zret (ty := .boolean) d_Net_isSign_34 rfl rfl ⟨resI (bI_zero (by first | (rw [(gv_m1 ht c15).1]; rfl) | (rw [e2]; exact (sg_idx _ (ht p) (by rw [← e2]; exact c4) (by rw [← e2]; exact c11)).mp c26))), rfl⟩
      · obtain ⟨e1, e2, e3⟩ := gv_nat ht c15
        have e4 := ht p
        refine wp_ldcSW d_Net_isSign_18 wS_Net_357 (fun sa hsR hsS => ?_)
        rw [str_signs] at hsS
        obtain ⟨hO, hC, v, hV, hT⟩ := hsS
        have hbs : ([32, 45, 63, 58, 40, 41, 46, 44, 39, 47, 43, 61] : List Nat).length < 100 := by decide
        refine wp_iload_n d_Net_isSign_21 rfl 0 rfl ?_
        refine wp_toI (z := (nI (t p))) (e3) ?_
        refine wp_i2c (v := nI (t p)) d_Net_isSign_22 (i2c_256 _ (by omega)) ?_
        refine wp_callSt (k' := 0) (n' := 0) (r := 0) (as := [.int (nI (t p))]) (rest := []) d_Net_isSign_23 cal_String_indexOf wM_Net_359 rfl hO (c_String_indexOf hS hO hC hV hT hbs (by decide) (by decide) (c := (t p)) (by omega)) (Nat.le_of_ble_eq_true rfl) ⟨Nat.le_of_ble_eq_true rfl, Nat.le_of_ble_eq_true rfl⟩ ?_
        refine wp_if_lt (tgt := 33) d_Net_isSign_26 (by decide) (fun c26 => ?_) (fun c26 => ?_)
        · refine wp_iconst (v := nI 0) d_Net_isSign_33 (by decide) ?_
          exact wp_zret (ty := .boolean) d_Net_isSign_34 rfl rfl ⟨resI (bI_zero (by first | (rw [(gv_m1 ht c15).1]; rfl) | (rw [e2]; exact (sg_idx _ (ht p) (by rw [← e2]; exact c4) (by rw [← e2]; exact c11)).mp c26))), rfl⟩
        · refine wp_iconst (v := nI 1) d_Net_isSign_29 (by decide) ?_
          refine wp_goto (tgt := 34) d_Net_isSign_30 (by decide) ?_
          exact wp_zret (ty := .boolean) d_Net_isSign_34 rfl rfl ⟨resI (bI_one (by first | (simp [isSgn, c4]; done) | (simp [isSgn, c11]; done) | (rw [e2]; cases hz : isSgn ((t p : Nat) : Int) with | true => rfl | false => exact absurd ((sg_idx _ (ht p) (by rw [← e2]; exact c4) (by rw [← e2]; exact c11)).mpr hz) c26))), rfl⟩
def pLine (g : Nat → Int) (a : Nat) : PR Nat := if pSigns g 69 a = a then .inr (a, 6) else pByte g 10 6 (pSigns g 69 a)
set_option maxRecDepth 20000 in
theorem c_Drf_readLine {G : Gt} {K N : Nat → Nat} {I : Nat → Nat → Int32} {R : Nat → Nat → Option Nat} {L : Nat → Nat → Int64} {E : Nat → Nat → Int32} {El : Nat → Nat → Int64} {Er : Nat → Nat → Option Nat} (hS : jOK G) {d b da : Nat} {t : Nat → Nat} {ln : Nat} (hJ : Jd K N I R E d b da t ln) {a : Nat} (ha : I 26 d = nI a) (hab : a < 2 ^ 29) : CallE G m_Drf_readLine 5 71 [.ref d] (hN K N I R L E El Er) 0 0 (some (.int (bI (pLine (gv t ln) a).isLeft))) (fun h' => ∃ I', h' = hN K N I' R L E El Er ∧ DP (pLine (gv t ln) a) d I I') := by
  refine CallS.of (Nat.le_of_ble_eq_true rfl) ?_
  have L2 : ∀ (f k : Nat) (F : Nat → Nat → Int32), 69 - k < f → k ≤ 69 → F 26 d = nI (a + k) → dF d I F → pSigns (gv t ln) 69 a = pSigns (gv t ln) (69 - k) (a + k) → WP G m_Drf_readLine (5, 71, 0, 0, (hN K N I R L E El Er), fun r9 h9 => r9 = .inl (some (.int (bI (pLine (gv t ln) a).isLeft))) ∧ (fun h' => ∃ I', h' = hN K N I' R L E El Er ∧ DP (pLine (gv t ln) a) d I I') h9) 2 [(1, .int (nI k)), (0, .ref d)] [] (hN K N F R L E El Er) 0 0 := by
    intro f
    induction f with
    | zero =>
      intro k F h1
      omega
    | succ f ih =>
      intro k F hf hk hF hfr hp
      have hJ : Jd K N F R E d b da t ln := hJ.I (hfr 25 d (Or.inr ⟨by decide, by decide⟩))
      refine wp_iload_n d_Drf_readLine_2 rfl 0 rfl ?_
      refine wp_bipush (v := nI 69) d_Drf_readLine_3 (by decide) ?_
      refine wp_geN (tgt := 38) d_Drf_readLine_5 (by decide) (by omega) (by omega) (fun c5 => ?_) (fun c5 => ?_)
      · have hq : pSigns (gv t ln) 69 a = a + k := by first | (rw [hp, pSigns_no c19]) | (rw [hp, show 69 - k = 0 by omega, pSigns])
        have h0 : k = 0 → pLine (gv t ln) a = .inr (a, 6) := fun h => by unfold pLine; rw [hq, if_pos (by omega)]
        have h1 : ¬ k = 0 → pLine (gv t ln) a = pByte (gv t ln) 10 6 (a + k) := fun h => by unfold pLine; rw [hq, if_neg (by omega)]
        refine wp_iload_n d_Drf_readLine_38 rfl 0 rfl ?_
        refine wp_if_neN (tgt := 55) d_Drf_readLine_39 (by decide) (by omega) (fun c39 => ?_) (fun c39 => ?_)
        · refine wp_aload_n d_Drf_readLine_55 rfl 1 rfl ?_
          refine wp_bipush (v := nI 10) d_Drf_readLine_56 (by decide) ?_
          refine wp_bipush (v := nI 6) d_Drf_readLine_58 (by decide) ?_
          refine wp_callEV (k' := 0) (n' := 0) (r := 0) d_Drf_readLine_60 (link_V (as := [.int (nI 10), .int (nI 6)]) (rest := []) (r := (R_Drf, T_Drf, 7)) d_Drf_readLine_60 cal_Drf_readByte wM_Drf_77 rfl (hN_o (hJ.kd) (by decide)) rfl) cal_Drf_readByte (c_Drf_readByte hJ hF (by omega) (by omega)) (Nat.le_of_ble_eq_true rfl) ⟨Nat.le_of_ble_eq_true rfl, Nat.le_of_ble_eq_true rfl⟩ (fun h' q60 => ?_)
          obtain ⟨F1, rfl, hF1⟩ := q60
          exact wp_zret (ty := .boolean) d_Drf_readLine_63 rfl (narB' _) ⟨resI (by rw [h1 (by omega)]; rfl), _, rfl, by rw [h1 (by omega)]; exact DP.tr hfr hF1⟩
        · refine wp_aload_n d_Drf_readLine_42 rfl 1 rfl ?_
          refine wp_bipush (v := nI 6) d_Drf_readLine_43 (by decide) ?_
          refine wp_aload_n d_Drf_readLine_45 rfl 1 rfl ?_
          refine wn_get_Drf d_Drf_readLine_46 (hJ.kd) 5 (by decide) wF_Drf_74 rfl ?_
          refine wp_toI (z := (nI (a + k))) (hF) ?_
          refine wp_toI (z := (nI a)) (congrArg nI (by omega)) ?_
          refine wp_callV (r := 0) d_Drf_readLine_49 (link_V (as := [.int (nI 6), .int (nI a)]) (rest := []) (r := (R_Drf, T_Drf, 7)) d_Drf_readLine_49 cal_Drf_tell wM_Drf_70 rfl (hN_o (hJ.kd) (by decide)) rfl) cal_Drf_tell (c_Drf_tell (r := 6) (a := a) hJ.kd) (Nat.le_of_ble_eq_true rfl) ⟨Nat.le_of_ble_eq_true rfl, Nat.le_of_ble_eq_true rfl⟩ ?_
          refine wp_goto (tgt := 63) d_Drf_readLine_52 (by decide) ?_
          exact wp_zret (ty := .boolean) d_Drf_readLine_63 rfl rfl ⟨resI (bI_zero (by rw [h0 (by omega)]; rfl)), _, rfl, by rw [h0 (by omega)]; obtain rfl : k = 0 := (by omega); exact DP.tr hfr DP_no⟩
      · refine wp_aload_n d_Drf_readLine_8 rfl 1 rfl ?_
        refine wp_aload_n d_Drf_readLine_9 rfl 1 rfl ?_
        refine wn_get_Drf d_Drf_readLine_10 (hJ.kd) 5 (by decide) wF_Drf_74 rfl ?_
        refine wp_toI (z := (nI (a + k))) (hF) ?_
        refine wp_callV (r := 0) d_Drf_readLine_13 (link_V (as := [.int (nI (a + k))]) (rest := []) (r := (R_Drf, T_Drf, 7)) d_Drf_readLine_13 cal_Drf_byteAt wM_Drf_59 rfl (hN_o (hJ.kd) (by decide)) rfl) cal_Drf_byteAt (c_Drf_byteAt hJ (by omega)) (Nat.le_of_ble_eq_true rfl) ⟨Nat.le_of_ble_eq_true rfl, Nat.le_of_ble_eq_true rfl⟩ ?_
        refine wp_callV (r := 0) d_Drf_readLine_16 (link_SN (av := [.int (gI t ln (a + k))]) (rest := []) d_Drf_readLine_16 cal_Net_isSign wN_Drf_118 wM_Drf_118 rfl) cal_Net_isSign (c_Net_isSign hS hJ.ht _ _) (Nat.le_of_ble_eq_true rfl) ⟨Nat.le_of_ble_eq_true rfl, Nat.le_of_ble_eq_true rfl⟩ ?_
        refine wp_if_eqB (tgt := 38) d_Drf_readLine_19 (by decide) (fun c19 => ?_) (fun c19 => ?_)
        · have hq : pSigns (gv t ln) 69 a = a + k := by first | (rw [hp, pSigns_no c19]) | (rw [hp, show 69 - k = 0 by omega, pSigns])
          have h0 : k = 0 → pLine (gv t ln) a = .inr (a, 6) := fun h => by unfold pLine; rw [hq, if_pos (by omega)]
          have h1 : ¬ k = 0 → pLine (gv t ln) a = pByte (gv t ln) 10 6 (a + k) := fun h => by unfold pLine; rw [hq, if_neg (by omega)]
          refine wp_iload_n d_Drf_readLine_38 rfl 0 rfl ?_
          refine wp_if_neN (tgt := 55) d_Drf_readLine_39 (by decide) (by omega) (fun c39 => ?_) (fun c39 => ?_)
          · refine wp_aload_n d_Drf_readLine_55 rfl 1 rfl ?_
            refine wp_bipush (v := nI 10) d_Drf_readLine_56 (by decide) ?_
            refine wp_bipush (v := nI 6) d_Drf_readLine_58 (by decide) ?_
            refine wp_callEV (k' := 0) (n' := 0) (r := 0) d_Drf_readLine_60 (link_V (as := [.int (nI 10), .int (nI 6)]) (rest := []) (r := (R_Drf, T_Drf, 7)) d_Drf_readLine_60 cal_Drf_readByte wM_Drf_77 rfl (hN_o (hJ.kd) (by decide)) rfl) cal_Drf_readByte (c_Drf_readByte hJ hF (by omega) (by omega)) (Nat.le_of_ble_eq_true rfl) ⟨Nat.le_of_ble_eq_true rfl, Nat.le_of_ble_eq_true rfl⟩ (fun h' q60 => ?_)
            obtain ⟨F1, rfl, hF1⟩ := q60
            exact wp_zret (ty := .boolean) d_Drf_readLine_63 rfl (narB' _) ⟨resI (by rw [h1 (by omega)]; rfl), _, rfl, by rw [h1 (by omega)]; exact DP.tr hfr hF1⟩
          · refine wp_aload_n d_Drf_readLine_42 rfl 1 rfl ?_
            refine wp_bipush (v := nI 6) d_Drf_readLine_43 (by decide) ?_
            refine wp_aload_n d_Drf_readLine_45 rfl 1 rfl ?_
            refine wn_get_Drf d_Drf_readLine_46 (hJ.kd) 5 (by decide) wF_Drf_74 rfl ?_
            refine wp_toI (z := (nI (a + k))) (hF) ?_
            refine wp_toI (z := (nI a)) (congrArg nI (by omega)) ?_
            refine wp_callV (r := 0) d_Drf_readLine_49 (link_V (as := [.int (nI 6), .int (nI a)]) (rest := []) (r := (R_Drf, T_Drf, 7)) d_Drf_readLine_49 cal_Drf_tell wM_Drf_70 rfl (hN_o (hJ.kd) (by decide)) rfl) cal_Drf_tell (c_Drf_tell (r := 6) (a := a) hJ.kd) (Nat.le_of_ble_eq_true rfl) ⟨Nat.le_of_ble_eq_true rfl, Nat.le_of_ble_eq_true rfl⟩ ?_
            refine wp_goto (tgt := 63) d_Drf_readLine_52 (by decide) ?_
            exact wp_zret (ty := .boolean) d_Drf_readLine_63 rfl rfl ⟨resI (bI_zero (by rw [h0 (by omega)]; rfl)), _, rfl, by rw [h0 (by omega)]; obtain rfl : k = 0 := (by omega); exact DP.tr hfr DP_no⟩
        · refine wp_iinc (lv' := [(1, .int (nI (k + 1))), (0, .ref d)]) d_Drf_readLine_22 0 rfl (nI_1 _) (by decide) rfl ?_
          refine wp_aload_n d_Drf_readLine_25 rfl 1 rfl ?_
          refine wp_dup d_Drf_readLine_26 rfl ?_
          refine wn_get_Drf d_Drf_readLine_27 (hJ.kd) 5 (by decide) wF_Drf_74 rfl ?_
          refine wp_toI (z := (nI (a + k))) (hF) ?_
          refine wp_iconst (v := nI 1) d_Drf_readLine_30 (by decide) ?_
          refine wp_iaddN d_Drf_readLine_31 ?_
          refine wn_put_Drf (ty := t_Drf 5) (I' := u2 F 26 d (nI ((a + k) + 1))) (R' := R) (L' := L) d_Drf_readLine_32 (hJ.kd) 5 (by decide) wF_Drf_74 rfl (t_Drf_ok 5 (by decide)) rfl rfl sF_26 (oI _ _ _ 26 _) ?_
          refine wp_goto (tgt := 2) d_Drf_readLine_35 (by decide) ?_
          exact ih (k + 1) _ (by omega) (by omega) (by rw [u2_at, if_pos rfl, Nat.add_assoc]) (hfr.tr (dF_u (Or.inl rfl))) (by rw [hp, show 69 - k = (69 - (k + 1)) + 1 by omega, pSigns, if_pos c19]; rfl)
  refine wp_iconst (v := nI 0) d_Drf_readLine_0 (by decide) ?_
  refine wp_istore_n (lv' := [(1, .int (nI 0)), (0, .ref d)]) d_Drf_readLine_1 rfl (by decide) rfl ?_
  exact L2 70 0 I (by omega) (by omega) ha dF_0 rfl
def isCl (g : Nat → Int) (a : Nat) : Bool := isNNNN g a && (g (a + 4) == -1 || g (a + 4) == 10)
theorem nn4 (k : Nat) (hk : k < 4) : ([78, 78, 78, 78] : List Nat).getD k 0 = 78 := by
  match k, hk with
  | 0, _ => rfl
  | 1, _ => rfl
  | 2, _ => rfl
  | 3, _ => rfl
set_option maxRecDepth 20000 in
theorem c_Drf_isClosing {G : Gt} {K N : Nat → Nat} {I : Nat → Nat → Int32} {R : Nat → Nat → Option Nat} {L : Nat → Nat → Int64} {E : Nat → Nat → Int32} {El : Nat → Nat → Int64} {Er : Nat → Nat → Option Nat} (hS : jOK G) {d b da : Nat} {t : Nat → Nat} {ln : Nat} (hJ : Jd K N I R E d b da t ln) {a : Nat} (ha : I 26 d = nI a) (hab : a < 2 ^ 29) : CallR G m_Drf_isClosing 4 54 [.ref d] (hN K N I R L E El Er) 0 0 (some (.int (bI (isCl (gv t ln) a)))) (hN K N I R L E El Er) := by
  refine CallS.of (Nat.le_of_ble_eq_true rfl) ?_
  have e78 : ∀ q, gI t ln q = nI 78 ↔ gv t ln q = 78 := fun q => gI_eq hJ.ht ln q (by decide)
  have e10 : ∀ q, gI t ln q = nI 10 ↔ gv t ln q = 10 := fun q => gI_eq hJ.ht ln q (by decide)
  have L2 : ∀ (f k : Nat), 4 - k < f → k ≤ 4 → (∀ i, i < k → gv t ln (a + i) = 78) → WP G m_Drf_isClosing (4, 54, 0, 0, (hN K N I R L E El Er), fun r9 h9 => r9 = .inl (some (.int (bI (isCl (gv t ln) a)))) ∧ h9 = (hN K N I R L E El Er)) 8 [(2, .int (nI k)), (1, .int (nI 4)), (0, .ref d)] [] (hN K N I R L E El Er) 0 0 := by
    intro f
    induction f with
    | zero =>
      intro k h1
      omega
    | succ f ih =>
      intro k hf hk hall
      have hnn : 4 ≤ k → isNNNN (gv t ln) a = true := fun h => by unfold isNNNN; simp [show gv t ln a = 78 from hall 0 (by omega), hall 1 (by omega), hall 2 (by omega), hall 3 (by omega)]
      have hyes : 4 ≤ k → (gv t ln (a + 4) = -1 ∨ gv t ln (a + 4) = 10) → isCl (gv t ln) a = true := fun h h2 => by unfold isCl; rw [hnn h]; rcases h2 with h2 | h2 <;> simp [h2]
      have hnot : 4 ≤ k → ¬ gv t ln (a + 4) = -1 → ¬ gv t ln (a + 4) = 10 → isCl (gv t ln) a = false := fun h h2 h3 => by unfold isCl; simp [h2, h3]
      have hno : ∀ j, j < 4 → ¬ gv t ln (a + j) = 78 → isCl (gv t ln) a = false := fun j hj h2 => by
        unfold isCl isNNNN
        rcases (show j = 0 ∨ j = 1 ∨ j = 2 ∨ j = 3 by omega) with rfl | rfl | rfl | rfl
        · have h3 : ¬ gv t ln a = 78 := h2
          simp [h3]
        · simp [h2]
        · simp [h2]
        · simp [h2]
      refine wp_iload_n d_Drf_isClosing_8 rfl 0 rfl ?_
      refine wp_iload_n d_Drf_isClosing_9 rfl 1 rfl ?_
      refine wp_geN (tgt := 40) d_Drf_isClosing_10 (by decide) (by omega) (by omega) (fun c10 => ?_) (fun c10 => ?_)
      · refine wp_aload_n d_Drf_isClosing_40 rfl 2 rfl ?_
        refine wp_aload_n d_Drf_isClosing_41 rfl 2 rfl ?_
        refine wn_get_Drf d_Drf_isClosing_42 (hJ.kd) 5 (by decide) wF_Drf_74 rfl ?_
        refine wp_toI (z := (nI a)) (ha) ?_
        refine wp_iload_n d_Drf_isClosing_45 rfl 1 rfl ?_
        refine wp_iaddN d_Drf_isClosing_46 ?_
        refine wp_callV (r := 0) d_Drf_isClosing_47 (link_V (as := [.int (nI (a + 4))]) (rest := []) (r := (R_Drf, T_Drf, 7)) d_Drf_isClosing_47 cal_Drf_byteAt wM_Drf_59 rfl (hN_o (hJ.kd) (by decide)) rfl) cal_Drf_byteAt (c_Drf_byteAt hJ (by omega)) (Nat.le_of_ble_eq_true rfl) ⟨Nat.le_of_ble_eq_true rfl, Nat.le_of_ble_eq_true rfl⟩ ?_
        refine wp_istore_n (lv' := [(2, .int (gI t ln (a + 4))), (1, .int (nI 4)), (0, .ref d)]) d_Drf_isClosing_50 rfl (by decide) rfl ?_
        refine wp_iload_n d_Drf_isClosing_51 rfl 0 rfl ?_
        refine wp_iconst (v := -1) d_Drf_isClosing_52 (by decide) ?_
        refine wp_icmp_eq (tgt := 62) d_Drf_isClosing_53 (by decide) (fun c53 => ?_) (fun c53 => ?_)
        · refine wp_iconst (v := nI 1) d_Drf_isClosing_62 (by decide) ?_
          refine wp_goto (tgt := 67) d_Drf_isClosing_63 (by decide) ?_
          exact wp_zret (ty := .boolean) d_Drf_isClosing_67 rfl rfl ⟨resI (bI_one (hyes (by omega) (by first | exact Or.inl ((gI_m1 hJ.ht _ _).mp c53) | exact Or.inr ((e10 _).mp c59)))), rfl⟩
        · refine wp_iload_n d_Drf_isClosing_56 rfl 0 rfl ?_
          refine wp_bipush (v := nI 10) d_Drf_isClosing_57 (by decide) ?_
          refine wp_icmp_ne (tgt := 66) d_Drf_isClosing_59 (by decide) (fun c59 => ?_) (fun c59 => ?_)
          · refine wp_iconst (v := nI 0) d_Drf_isClosing_66 (by decide) ?_
            exact wp_zret (ty := .boolean) d_Drf_isClosing_67 rfl rfl ⟨resI (bI_zero (hnot (by omega) (fun q => c53 ((gI_m1 hJ.ht _ _).mpr q)) (fun q => c59 ((e10 _).mpr q)))), rfl⟩
          · refine wp_iconst (v := nI 1) d_Drf_isClosing_62 (by decide) ?_
            refine wp_goto (tgt := 67) d_Drf_isClosing_63 (by decide) ?_
            exact wp_zret (ty := .boolean) d_Drf_isClosing_67 rfl rfl ⟨resI (bI_one (hyes (by omega) (by first | exact Or.inl ((gI_m1 hJ.ht _ _).mp c53) | exact Or.inr ((e10 _).mp c59)))), rfl⟩
      · refine wp_aload_n d_Drf_isClosing_13 rfl 2 rfl ?_
        refine wp_aload_n d_Drf_isClosing_14 rfl 2 rfl ?_
        refine wn_get_Drf d_Drf_isClosing_15 (hJ.kd) 5 (by decide) wF_Drf_74 rfl ?_
        refine wp_toI (z := (nI a)) (ha) ?_
        refine wp_iload_n d_Drf_isClosing_18 rfl 0 rfl ?_
        refine wp_iaddN d_Drf_isClosing_19 ?_
        refine wp_callV (r := 0) d_Drf_isClosing_20 (link_V (as := [.int (nI (a + k))]) (rest := []) (r := (R_Drf, T_Drf, 7)) d_Drf_isClosing_20 cal_Drf_byteAt wM_Drf_59 rfl (hN_o (hJ.kd) (by decide)) rfl) cal_Drf_byteAt (c_Drf_byteAt hJ (by omega)) (Nat.le_of_ble_eq_true rfl) ⟨Nat.le_of_ble_eq_true rfl, Nat.le_of_ble_eq_true rfl⟩ ?_
        refine wp_ldcS d_Drf_isClosing_23 wS_Drf_109 (fun sa hsR hsS => ?_)
        rw [str_NNNN] at hsS
        obtain ⟨hO, hC, v, hV, hT⟩ := hsS
        have hbs : ([78, 78, 78, 78] : List Nat).length < 100 := by decide
        refine wp_iload_n d_Drf_isClosing_25 rfl 0 rfl ?_
        refine wp_callSt (k' := 0) (n' := 0) (r := 1) (as := [.int (nI k)]) (rest := [.int (gI t ln (a + k))]) d_Drf_isClosing_26 cal_String_charAt wM_Drf_114 rfl hO (c_String_charAt hS hO hC hV hT hbs (by decide) c10) (Nat.le_of_ble_eq_true rfl) ⟨Nat.le_of_ble_eq_true rfl, Nat.le_of_ble_eq_true rfl⟩ ?_
        refine wp_toI (z := (nI 78)) (congrArg nI (nn4 k c10)) ?_
        refine wp_icmp_eq (tgt := 34) d_Drf_isClosing_29 (by decide) (fun c29 => ?_) (fun c29 => ?_)
        · refine wp_iinc (lv' := [(2, .int (nI (k + 1))), (1, .int (nI 4)), (0, .ref d)]) d_Drf_isClosing_34 0 rfl (nI_1 _) (by decide) rfl ?_
          refine wp_goto (tgt := 8) d_Drf_isClosing_37 (by decide) ?_
          exact ih (k + 1) (by omega) (by omega) (fun i hi => by rcases Nat.lt_or_ge i k with h | h; (exact hall i h); (obtain rfl : i = k := (by omega); exact (e78 _).mp c29))
        · refine wp_iconst (v := nI 0) d_Drf_isClosing_32 (by decide) ?_
          exact wp_zret (ty := .boolean) d_Drf_isClosing_33 rfl rfl ⟨resI (bI_zero (hno k c10 (fun q => c29 ((e78 _).mpr q)))), rfl⟩
  refine wp_ldcS d_Drf_isClosing_0 wS_Drf_109 (fun sa hsR hsS => ?_)
  rw [str_NNNN] at hsS
  obtain ⟨hO, hC, v, hV, hT⟩ := hsS
  have hbs : ([78, 78, 78, 78] : List Nat).length < 100 := by decide
  refine wp_callSt (k' := 0) (n' := 0) (r := 0) (as := []) (rest := []) d_Drf_isClosing_2 cal_String_length wM_Drf_111 rfl hO (c_String_length hS hO hC hV hT hbs) (Nat.le_of_ble_eq_true rfl) ⟨Nat.le_of_ble_eq_true rfl, Nat.le_of_ble_eq_true rfl⟩ ?_
  refine wp_istore_n (lv' := [(1, .int (nI 4)), (0, .ref d)]) d_Drf_isClosing_5 rfl (by decide) rfl ?_
  refine wp_iconst (v := nI 0) d_Drf_isClosing_6 (by decide) ?_
  refine wp_istore_n (lv' := [(2, .int (nI 0)), (1, .int (nI 4)), (0, .ref d)]) d_Drf_isClosing_7 rfl (by decide) rfl ?_
  exact L2 5 0 (by omega) (by omega) (fun i hi => absurd hi (by omega))
end Cls7
