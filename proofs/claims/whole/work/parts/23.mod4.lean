section Mod4
set_option maxRecDepth 20000 in
theorem c_Mod_letters {G : Gt} {o : Nat} {A : Nat → Nat} {Fi : Nat → Int32} {M : Nat → Nat → Int32} {Ml : Nat → Nat → Int64} {t : Nat → Nat} {ln : Nat} (hI : mInj o A) (hJ : Jt t ln Fi M) {a r : Nat} (ha : Fi 40 = nI a) (hab : a < 2 ^ 30) : CallE G m_Mod_letters 2 26 [.ref o, .int (nI r)] (hM o A Fi M Ml) 0 0 (some (.int (bI (pLet (gv t ln) r 8 a).isLeft))) (fun h' => ∃ Fi', h' = hM o A Fi' M Ml ∧ RP (pLet (gv t ln) r 8 a) Fi Fi') := by
  refine CallS.of (Nat.le_of_ble_eq_true rfl) ?_
  have L2 : ∀ (f k : Nat) (F : Nat → Int32), 8 - k < f → k ≤ 8 → F 40 = nI (a + k) → (∀ j, j ≠ 37 → j ≠ 38 → j ≠ 40 → F j = Fi j) → pLet (gv t ln) r 8 a = pLet (gv t ln) r (8 - k) (a + k) → WP G m_Mod_letters (2, 26, 0, 0, (hM o A Fi M Ml), fun r9 h9 => r9 = .inl (some (.int (bI (pLet (gv t ln) r 8 a).isLeft))) ∧ (fun h' => ∃ Fi', h' = hM o A Fi' M Ml ∧ RP (pLet (gv t ln) r 8 a) Fi Fi') h9) 2 [(2, .int (nI k)), (0, .ref o), (1, .int (nI r))] [] (hM o A F M Ml) 0 0 := by
    intro f
    induction f with
    | zero =>
      intro k F h1
      omega
    | succ f ih =>
      intro k F hf hk hF hfr hp
      have hJ : Jt t ln F M := ⟨hJ.1, (hfr 39 (by decide) (by decide) (by decide)).trans hJ.2.1, hJ.2.2⟩
      have hend : 8 ≤ k → pLet (gv t ln) r 8 a = .inl (a + 8) := fun h => by rw [hp, show 8 - k = 0 by omega, pLet, show a + k = a + 8 by omega]
      have hno : isLet (gv t ln (a + k)) = false → k < 8 → pLet (gv t ln) r 8 a = .inr (a + k, r) := fun h h8 => by rw [hp, show 8 - k = (7 - k) + 1 by omega, pLet, h]; rfl
      refine wp_iload_n d_Mod_letters_2 rfl 0 rfl ?_
      refine wp_bipush (v := nI 8) d_Mod_letters_3 (by decide) ?_
      refine wp_geN (tgt := 48) d_Mod_letters_5 (by decide) (by omega) (by omega) (fun c5 => ?_) (fun c5 => ?_)
      · refine wp_iconst (v := nI 1) d_Mod_letters_48 (by decide) ?_
        exact wp_zret (ty := .boolean) d_Mod_letters_49 rfl rfl ⟨resI (bI_one (by rw [hend (by omega)]; rfl)), _, rfl, by rw [hend (by omega)]; exact ⟨hfr, fun b hb => by cases hb; rw [hF, show a + k = a + 8 by omega], fun f hf => (by cases hf)⟩⟩
      · refine wp_aload_n d_Mod_letters_8 rfl 1 rfl ?_
        refine wp_aload_n d_Mod_letters_9 rfl 1 rfl ?_
        refine wm_get d_Mod_letters_10 40 (by decide) wF_Mod_148 rfl ?_
        refine wp_toI (z := (nI (a + k))) (hF) ?_
        refine wp_callV (r := 0) d_Mod_letters_13 (link_V (as := [.int (nI (a + k))]) (rest := []) (r := (R_Mod, T_Mod, 43)) d_Mod_letters_13 cal_Mod_here wM_Mod_151 rfl hM_o rfl) cal_Mod_here (c_Mod_here hI hJ (by omega)) (Nat.le_of_ble_eq_true rfl) ⟨Nat.le_of_ble_eq_true rfl, Nat.le_of_ble_eq_true rfl⟩ ?_
        refine wp_callV (r := 0) d_Mod_letters_16 (link_S (av := [.int (gI t ln (a + k))]) (rest := []) d_Mod_letters_16 cal_Mod_isLetter wM_Mod_130 rfl) cal_Mod_isLetter (c_Mod_isLetterG hJ.2.2.2 _ _) (Nat.le_of_ble_eq_true rfl) ⟨Nat.le_of_ble_eq_true rfl, Nat.le_of_ble_eq_true rfl⟩ ?_
        refine wp_if_neB (tgt := 32) d_Mod_letters_19 (by decide) (fun c19 => ?_) (fun c19 => ?_)
        · refine wp_aload_n d_Mod_letters_32 rfl 1 rfl ?_
          refine wp_dup d_Mod_letters_33 rfl ?_
          refine wm_get d_Mod_letters_34 40 (by decide) wF_Mod_148 rfl ?_
          refine wp_toI (z := (nI (a + k))) (hF) ?_
          refine wp_iconst (v := nI 1) d_Mod_letters_37 (by decide) ?_
          refine wp_iaddN d_Mod_letters_38 ?_
          refine wm_put (Fi' := va_up F 40 (nI ((a + k) + 1))) d_Mod_letters_39 40 (by decide) wF_Mod_148 rfl (by decide) rfl ?_
          refine wp_iinc (lv' := [(2, .int (nI (k + 1))), (0, .ref o), (1, .int (nI r))]) d_Mod_letters_42 0 rfl (nI_1 _) (by decide) rfl ?_
          refine wp_goto (tgt := 2) d_Mod_letters_45 (by decide) ?_
          exact ih (k + 1) _ (by omega) (by omega) (by simp [va_up, Nat.add_assoc]) (fun j h1 h2 h3 => by simp [va_up, h3, hfr j h1 h2 h3]) (by rw [hp, show 8 - k = (8 - (k + 1)) + 1 by omega, pLet, if_pos c19]; rfl)
        · refine wp_aload_n d_Mod_letters_22 rfl 1 rfl ?_
          refine wp_aload_n d_Mod_letters_23 rfl 1 rfl ?_
          refine wm_get d_Mod_letters_24 40 (by decide) wF_Mod_148 rfl ?_
          refine wp_toI (z := (nI (a + k))) (hF) ?_
          refine wp_iload_n d_Mod_letters_27 rfl 2 rfl ?_
          refine wp_callV (r := 0) d_Mod_letters_28 (link_V (as := [.int (nI (a + k)), .int (nI r)]) (rest := []) (r := (R_Mod, T_Mod, 43)) d_Mod_letters_28 cal_Mod_breaks wM_Mod_155 rfl hM_o rfl) cal_Mod_breaks (c_Mod_breaks (nI (a + k)) (nI r)) (Nat.le_of_ble_eq_true rfl) ⟨Nat.le_of_ble_eq_true rfl, Nat.le_of_ble_eq_true rfl⟩ ?_
          exact wp_zret (ty := .boolean) d_Mod_letters_31 rfl rfl ⟨resI (bI_zero (by rw [hno c19 c5]; rfl)), _, rfl, by rw [hno c19 c5]; exact RP.trans hfr RP_no⟩
  refine wp_iconst (v := nI 0) d_Mod_letters_0 (by decide) ?_
  refine wp_istore_n (lv' := [(2, .int (nI 0)), (0, .ref o), (1, .int (nI r))]) d_Mod_letters_1 rfl (by decide) rfl ?_
  exact L2 9 0 Fi (by omega) (by omega) ha (fun _ _ _ _ => rfl) rfl
theorem dig_of {t : Nat → Nat} (ht : ∀ p, t p < 256) {ln p : Nat} (h : isDig (gv t ln p) = true) : ∃ n, n < 10 ∧ gv t ln p = ((48 + n : Nat) : Int) ∧ gI t ln p = nI (48 + n) := by
  unfold isDig at h
  simp only [decide_eq_true_eq] at h
  refine ⟨(gv t ln p - 48).toNat, by omega, by omega, ?_⟩
  rw [gI_eq ht ln p (by omega)]
  omega
set_option maxRecDepth 20000 in
theorem c_Mod_two {G : Gt} {o : Nat} {A : Nat → Nat} {Fi : Nat → Int32} {M : Nat → Nat → Int32} {Ml : Nat → Nat → Int64} {t : Nat → Nat} {ln : Nat} (hI : mInj o A) (hJ : Jt t ln Fi M) {a lo hi : Nat} (ha : Fi 40 = nI a) (hab : a < 2 ^ 30) (hlo : lo < 100) (hhi : hi < 100) : CallE G m_Mod_two 2 26 [.ref o, .int (nI lo), .int (nI hi)] (hM o A Fi M Ml) 0 0 (some (.int (bI (pNum (gv t ln) lo hi a).isLeft))) (fun h' => ∃ Fi', h' = hM o A Fi' M Ml ∧ RP (pNum (gv t ln) lo hi a) Fi Fi') := by
  have hno1 : isDig (gv t ln a) = false → pNum (gv t ln) lo hi a = .inr (a, 5) := fun h => by simp [pNum, h]
  have hno2 : isDig (gv t ln a) = true → isDig (gv t ln (a + 1)) = false → pNum (gv t ln) lo hi a = .inr (a + 1, 5) := fun h1 h2 => by simp [pNum, h1, h2]
  refine CallS.of (Nat.le_of_ble_eq_true rfl) ?_
  refine wp_aload_n d_Mod_two_0 rfl 0 rfl ?_
  refine wp_aload_n d_Mod_two_1 rfl 0 rfl ?_
  refine wm_get d_Mod_two_2 40 (by decide) wF_Mod_148 rfl ?_
  refine wp_toI (z := (nI a)) (ha) ?_
  refine wp_callV (r := 0) d_Mod_two_5 (link_V (as := [.int (nI a)]) (rest := []) (r := (R_Mod, T_Mod, 43)) d_Mod_two_5 cal_Mod_here wM_Mod_151 rfl hM_o rfl) cal_Mod_here (c_Mod_here hI hJ (by omega)) (Nat.le_of_ble_eq_true rfl) ⟨Nat.le_of_ble_eq_true rfl, Nat.le_of_ble_eq_true rfl⟩ ?_
  refine wp_callV (r := 0) d_Mod_two_8 (link_S (av := [.int (gI t ln a)]) (rest := []) d_Mod_two_8 cal_Mod_isDigit wM_Mod_145 rfl) cal_Mod_isDigit (c_Mod_isDigitG hJ.2.2.2 _ _) (Nat.le_of_ble_eq_true rfl) ⟨Nat.le_of_ble_eq_true rfl, Nat.le_of_ble_eq_true rfl⟩ ?_
  refine wp_if_neB (tgt := 24) d_Mod_two_11 (by decide) (fun c11 => ?_) (fun c11 => ?_)
  · refine wp_aload_n d_Mod_two_24 rfl 0 rfl ?_
    refine wp_aload_n d_Mod_two_25 rfl 0 rfl ?_
    refine wm_get d_Mod_two_26 40 (by decide) wF_Mod_148 rfl ?_
    refine wp_toI (z := (nI a)) (ha) ?_
    refine wp_iconst (v := nI 1) d_Mod_two_29 (by decide) ?_
    refine wp_iaddN d_Mod_two_30 ?_
    refine wp_callV (r := 0) d_Mod_two_31 (link_V (as := [.int (nI (a + 1))]) (rest := []) (r := (R_Mod, T_Mod, 43)) d_Mod_two_31 cal_Mod_here wM_Mod_151 rfl hM_o rfl) cal_Mod_here (c_Mod_here hI hJ (by omega)) (Nat.le_of_ble_eq_true rfl) ⟨Nat.le_of_ble_eq_true rfl, Nat.le_of_ble_eq_true rfl⟩ ?_
    refine wp_callV (r := 0) d_Mod_two_34 (link_S (av := [.int (gI t ln (a + 1))]) (rest := []) d_Mod_two_34 cal_Mod_isDigit wM_Mod_145 rfl) cal_Mod_isDigit (c_Mod_isDigitG hJ.2.2.2 _ _) (Nat.le_of_ble_eq_true rfl) ⟨Nat.le_of_ble_eq_true rfl, Nat.le_of_ble_eq_true rfl⟩ ?_
    refine wp_if_neB (tgt := 52) d_Mod_two_37 (by decide) (fun c37 => ?_) (fun c37 => ?_)
    · obtain ⟨n1, hn1, e1, e2⟩ := dig_of hJ.2.2.2 c11
      obtain ⟨n2, hn2, e3, e4⟩ := dig_of hJ.2.2.2 c37
      have hin := inZ_nI (a := 10 * (48 + n1 - 48) + (48 + n2) - 48) (lo := lo) (hi := hi) (by omega) (by omega) (by omega)
      have hok : inZ (nI (10 * (48 + n1 - 48) + (48 + n2) - 48)) (nI lo) (nI hi) = true → pNum (gv t ln) lo hi a = .inl (a + 2) := fun h => by
        rw [hin, decide_eq_true_eq] at h
        unfold pNum
        rw [c11, c37, e1, e3, if_neg (by decide), if_neg (by decide), if_pos (by omega)]
      have hno3 : inZ (nI (10 * (48 + n1 - 48) + (48 + n2) - 48)) (nI lo) (nI hi) = false → pNum (gv t ln) lo hi a = .inr (a, 5) := fun h => by
        rw [hin, decide_eq_false_iff_not] at h
        unfold pNum
        rw [c11, c37, e1, e3, if_neg (by decide), if_neg (by decide), if_neg (by omega)]
      refine wp_bipush (v := nI 10) d_Mod_two_52 (by decide) ?_
      refine wp_aload_n d_Mod_two_54 rfl 0 rfl ?_
      refine wp_aload_n d_Mod_two_55 rfl 0 rfl ?_
      refine wm_get d_Mod_two_56 40 (by decide) wF_Mod_148 rfl ?_
      refine wp_toI (z := (nI a)) (ha) ?_
      refine wp_callV (r := 1) d_Mod_two_59 (link_V (as := [.int (nI a)]) (rest := [.int (nI 10)]) (r := (R_Mod, T_Mod, 43)) d_Mod_two_59 cal_Mod_here wM_Mod_151 rfl hM_o rfl) cal_Mod_here (c_Mod_here hI hJ (by omega)) (Nat.le_of_ble_eq_true rfl) ⟨Nat.le_of_ble_eq_true rfl, Nat.le_of_ble_eq_true rfl⟩ ?_
      refine wp_toI (z := (nI (48 + n1))) e2 ?_
      refine wp_bipush (v := nI 48) d_Mod_two_62 (by decide) ?_
      refine wp_isubN d_Mod_two_64 (by omega) ?_
      refine wp_imulN d_Mod_two_65 ?_
      refine wp_aload_n d_Mod_two_66 rfl 0 rfl ?_
      refine wp_aload_n d_Mod_two_67 rfl 0 rfl ?_
      refine wm_get d_Mod_two_68 40 (by decide) wF_Mod_148 rfl ?_
      refine wp_toI (z := (nI a)) (ha) ?_
      refine wp_iconst (v := nI 1) d_Mod_two_71 (by decide) ?_
      refine wp_iaddN d_Mod_two_72 ?_
      refine wp_callV (r := 1) d_Mod_two_73 (link_V (as := [.int (nI (a + 1))]) (rest := [.int (nI (10 * ((48 + n1) - 48)))]) (r := (R_Mod, T_Mod, 43)) d_Mod_two_73 cal_Mod_here wM_Mod_151 rfl hM_o rfl) cal_Mod_here (c_Mod_here hI hJ (by omega)) (Nat.le_of_ble_eq_true rfl) ⟨Nat.le_of_ble_eq_true rfl, Nat.le_of_ble_eq_true rfl⟩ ?_
      refine wp_toI (z := (nI (48 + n2))) e4 ?_
      refine wp_iaddN d_Mod_two_76 ?_
      refine wp_bipush (v := nI 48) d_Mod_two_77 (by decide) ?_
      refine wp_isubN d_Mod_two_79 (by omega) ?_
      refine wp_istore_n (lv' := [(3, .int (nI (((10 * ((48 + n1) - 48)) + (48 + n2)) - 48))), (0, .ref o), (1, .int (nI lo)), (2, .int (nI hi))]) d_Mod_two_80 rfl (by decide) rfl ?_
      refine wp_iload_n d_Mod_two_81 rfl 0 rfl ?_
      refine wp_iload_n d_Mod_two_82 rfl 2 rfl ?_
      refine wp_iload_n d_Mod_two_83 rfl 3 rfl ?_
      refine wp_callV (r := 0) d_Mod_two_84 (link_S (av := [.int (nI (((10 * ((48 + n1) - 48)) + (48 + n2)) - 48)), .int (nI lo), .int (nI hi)]) (rest := []) d_Mod_two_84 cal_Mod_in wM_Mod_115 rfl) cal_Mod_in (c_Mod_in (nI (((10 * ((48 + n1) - 48)) + (48 + n2)) - 48)) (nI lo) (nI hi)) (Nat.le_of_ble_eq_true rfl) ⟨Nat.le_of_ble_eq_true rfl, Nat.le_of_ble_eq_true rfl⟩ ?_
      refine wp_if_neB (tgt := 100) d_Mod_two_87 (by decide) (fun c87 => ?_) (fun c87 => ?_)
      · refine wp_aload_n d_Mod_two_100 rfl 1 rfl ?_
        refine wp_dup d_Mod_two_101 rfl ?_
        refine wm_get d_Mod_two_102 40 (by decide) wF_Mod_148 rfl ?_
        refine wp_toI (z := (nI a)) (ha) ?_
        refine wp_iconst (v := nI 2) d_Mod_two_105 (by decide) ?_
        refine wp_iaddN d_Mod_two_106 ?_
        refine wm_put (Fi' := va_up Fi 40 (nI (a + 2))) d_Mod_two_107 40 (by decide) wF_Mod_148 rfl (by decide) rfl ?_
        refine wp_iconst (v := nI 1) d_Mod_two_110 (by decide) ?_
        exact wp_zret (ty := .boolean) d_Mod_two_111 rfl rfl ⟨resI (bI_one (by rw [hok c87]; rfl)), _, rfl, by rw [hok c87]; exact RP_ok⟩
      · refine wp_aload_n d_Mod_two_90 rfl 1 rfl ?_
        refine wp_aload_n d_Mod_two_91 rfl 1 rfl ?_
        refine wm_get d_Mod_two_92 40 (by decide) wF_Mod_148 rfl ?_
        refine wp_toI (z := (nI a)) (ha) ?_
        refine wp_iconst (v := nI 5) d_Mod_two_95 (by decide) ?_
        refine wp_callV (r := 0) d_Mod_two_96 (link_V (as := [.int (nI a), .int (nI 5)]) (rest := []) (r := (R_Mod, T_Mod, 43)) d_Mod_two_96 cal_Mod_breaks wM_Mod_155 rfl hM_o rfl) cal_Mod_breaks (c_Mod_breaks (nI a) (nI 5)) (Nat.le_of_ble_eq_true rfl) ⟨Nat.le_of_ble_eq_true rfl, Nat.le_of_ble_eq_true rfl⟩ ?_
        exact wp_zret (ty := .boolean) d_Mod_two_99 rfl rfl ⟨resI (bI_zero (by rw [hno3 c87]; rfl)), _, rfl, by rw [hno3 c87]; exact RP_no⟩
    · refine wp_aload_n d_Mod_two_40 rfl 0 rfl ?_
      refine wp_aload_n d_Mod_two_41 rfl 0 rfl ?_
      refine wm_get d_Mod_two_42 40 (by decide) wF_Mod_148 rfl ?_
      refine wp_toI (z := (nI a)) (ha) ?_
      refine wp_iconst (v := nI 1) d_Mod_two_45 (by decide) ?_
      refine wp_iaddN d_Mod_two_46 ?_
      refine wp_iconst (v := nI 5) d_Mod_two_47 (by decide) ?_
      refine wp_callV (r := 0) d_Mod_two_48 (link_V (as := [.int (nI (a + 1)), .int (nI 5)]) (rest := []) (r := (R_Mod, T_Mod, 43)) d_Mod_two_48 cal_Mod_breaks wM_Mod_155 rfl hM_o rfl) cal_Mod_breaks (c_Mod_breaks (nI (a + 1)) (nI 5)) (Nat.le_of_ble_eq_true rfl) ⟨Nat.le_of_ble_eq_true rfl, Nat.le_of_ble_eq_true rfl⟩ ?_
      exact wp_zret (ty := .boolean) d_Mod_two_51 rfl rfl ⟨resI (bI_zero (by rw [hno2 c11 c37]; rfl)), _, rfl, by rw [hno2 c11 c37]; exact RP_no⟩
  · refine wp_aload_n d_Mod_two_14 rfl 0 rfl ?_
    refine wp_aload_n d_Mod_two_15 rfl 0 rfl ?_
    refine wm_get d_Mod_two_16 40 (by decide) wF_Mod_148 rfl ?_
    refine wp_toI (z := (nI a)) (ha) ?_
    refine wp_iconst (v := nI 5) d_Mod_two_19 (by decide) ?_
    refine wp_callV (r := 0) d_Mod_two_20 (link_V (as := [.int (nI a), .int (nI 5)]) (rest := []) (r := (R_Mod, T_Mod, 43)) d_Mod_two_20 cal_Mod_breaks wM_Mod_155 rfl hM_o rfl) cal_Mod_breaks (c_Mod_breaks (nI a) (nI 5)) (Nat.le_of_ble_eq_true rfl) ⟨Nat.le_of_ble_eq_true rfl, Nat.le_of_ble_eq_true rfl⟩ ?_
    exact wp_zret (ty := .boolean) d_Mod_two_23 rfl rfl ⟨resI (bI_zero (by rw [hno1 c11]; rfl)), _, rfl, by rw [hno1 c11]; exact RP_no⟩
set_option maxRecDepth 20000 in
theorem c_Mod_isEnd {G : Gt} {o : Nat} {A : Nat → Nat} {Fi : Nat → Int32} {M : Nat → Nat → Int32} {Ml : Nat → Nat → Int64} {t : Nat → Nat} {ln : Nat} (hI : mInj o A) (hJ : Jt t ln Fi M) {p : Nat} (hp : p < 2 ^ 30) : CallR G m_Mod_isEnd 1 13 [.ref o, .int (nI p)] (hM o A Fi M Ml) 0 0 (some (.int (bI (isNNNN (gv t ln) p)))) (hM o A Fi M Ml) := by
  refine CallS.of (Nat.le_of_ble_eq_true rfl) ?_
  have e : ∀ q, gI t ln q = nI 78 ↔ gv t ln q = 78 := fun q => gI_eq hJ.2.2.2 ln q (by decide)
  refine wp_aload_n d_Mod_isEnd_0 rfl 0 rfl ?_
  refine wp_iload_n d_Mod_isEnd_1 rfl 1 rfl ?_
  refine wp_callV (r := 0) d_Mod_isEnd_2 (link_V (as := [.int (nI p)]) (rest := []) (r := (R_Mod, T_Mod, 43)) d_Mod_isEnd_2 cal_Mod_here wM_Mod_151 rfl hM_o rfl) cal_Mod_here (c_Mod_here hI hJ (by omega)) (Nat.le_of_ble_eq_true rfl) ⟨Nat.le_of_ble_eq_true rfl, Nat.le_of_ble_eq_true rfl⟩ ?_
  refine wp_bipush (v := nI 78) d_Mod_isEnd_5 (by decide) ?_
  refine wp_icmp_ne (tgt := 50) d_Mod_isEnd_7 (by decide) (fun c7 => ?_) (fun c7 => ?_)
  · refine wp_iconst (v := nI 0) d_Mod_isEnd_50 (by decide) ?_
    exact wp_zret (ty := .boolean) d_Mod_isEnd_51 rfl rfl ⟨resI (bI_zero (by simp only [e] at *; simp_all [isNNNN])), rfl⟩
  · refine wp_aload_n d_Mod_isEnd_10 rfl 0 rfl ?_
    refine wp_iload_n d_Mod_isEnd_11 rfl 1 rfl ?_
    refine wp_iconst (v := nI 1) d_Mod_isEnd_12 (by decide) ?_
    refine wp_iaddN d_Mod_isEnd_13 ?_
    refine wp_callV (r := 0) d_Mod_isEnd_14 (link_V (as := [.int (nI (p + 1))]) (rest := []) (r := (R_Mod, T_Mod, 43)) d_Mod_isEnd_14 cal_Mod_here wM_Mod_151 rfl hM_o rfl) cal_Mod_here (c_Mod_here hI hJ (by omega)) (Nat.le_of_ble_eq_true rfl) ⟨Nat.le_of_ble_eq_true rfl, Nat.le_of_ble_eq_true rfl⟩ ?_
    refine wp_bipush (v := nI 78) d_Mod_isEnd_17 (by decide) ?_
    refine wp_icmp_ne (tgt := 50) d_Mod_isEnd_19 (by decide) (fun c19 => ?_) (fun c19 => ?_)
    · refine wp_iconst (v := nI 0) d_Mod_isEnd_50 (by decide) ?_
      exact wp_zret (ty := .boolean) d_Mod_isEnd_51 rfl rfl ⟨resI (bI_zero (by simp only [e] at *; simp_all [isNNNN])), rfl⟩
    · refine wp_aload_n d_Mod_isEnd_22 rfl 0 rfl ?_
      refine wp_iload_n d_Mod_isEnd_23 rfl 1 rfl ?_
      refine wp_iconst (v := nI 2) d_Mod_isEnd_24 (by decide) ?_
      refine wp_iaddN d_Mod_isEnd_25 ?_
      refine wp_callV (r := 0) d_Mod_isEnd_26 (link_V (as := [.int (nI (p + 2))]) (rest := []) (r := (R_Mod, T_Mod, 43)) d_Mod_isEnd_26 cal_Mod_here wM_Mod_151 rfl hM_o rfl) cal_Mod_here (c_Mod_here hI hJ (by omega)) (Nat.le_of_ble_eq_true rfl) ⟨Nat.le_of_ble_eq_true rfl, Nat.le_of_ble_eq_true rfl⟩ ?_
      refine wp_bipush (v := nI 78) d_Mod_isEnd_29 (by decide) ?_
      refine wp_icmp_ne (tgt := 50) d_Mod_isEnd_31 (by decide) (fun c31 => ?_) (fun c31 => ?_)
      · refine wp_iconst (v := nI 0) d_Mod_isEnd_50 (by decide) ?_
        exact wp_zret (ty := .boolean) d_Mod_isEnd_51 rfl rfl ⟨resI (bI_zero (by simp only [e] at *; simp_all [isNNNN])), rfl⟩
      · refine wp_aload_n d_Mod_isEnd_34 rfl 0 rfl ?_
        refine wp_iload_n d_Mod_isEnd_35 rfl 1 rfl ?_
        refine wp_iconst (v := nI 3) d_Mod_isEnd_36 (by decide) ?_
        refine wp_iaddN d_Mod_isEnd_37 ?_
        refine wp_callV (r := 0) d_Mod_isEnd_38 (link_V (as := [.int (nI (p + 3))]) (rest := []) (r := (R_Mod, T_Mod, 43)) d_Mod_isEnd_38 cal_Mod_here wM_Mod_151 rfl hM_o rfl) cal_Mod_here (c_Mod_here hI hJ (by omega)) (Nat.le_of_ble_eq_true rfl) ⟨Nat.le_of_ble_eq_true rfl, Nat.le_of_ble_eq_true rfl⟩ ?_
        refine wp_bipush (v := nI 78) d_Mod_isEnd_41 (by decide) ?_
        refine wp_icmp_ne (tgt := 50) d_Mod_isEnd_43 (by decide) (fun c43 => ?_) (fun c43 => ?_)
        · refine wp_iconst (v := nI 0) d_Mod_isEnd_50 (by decide) ?_
          exact wp_zret (ty := .boolean) d_Mod_isEnd_51 rfl rfl ⟨resI (bI_zero (by simp only [e] at *; simp_all [isNNNN])), rfl⟩
        · refine wp_iconst (v := nI 1) d_Mod_isEnd_46 (by decide) ?_
          refine wp_goto (tgt := 51) d_Mod_isEnd_47 (by decide) ?_
          exact wp_zret (ty := .boolean) d_Mod_isEnd_51 rfl rfl ⟨resI (bI_one (by simp only [e] at *; simp_all [isNNNN])), rfl⟩
def rkI (x : Int) : Int32 := match rankOf x with
  | some p => nI p
  | none => -1
set_option maxRecDepth 20000 in
theorem c_Mod_rank {G : Gt} {h : AHp} {t : Nat → Nat} (ht : ∀ p, t p < 256) (ln p : Nat) : CallR G m_Mod_rank 0 0 [.int (gI t ln p)] h 0 0 (some (.int (rkI (gv t ln p)))) h := by
  refine CallS.of (Nat.le_of_ble_eq_true rfl) ?_
  have e1 : gI t ln p = nI 83 ↔ gv t ln p = 83 := gI_eq ht ln p (by decide)
  have e2 : gI t ln p = nI 68 ↔ gv t ln p = 68 := gI_eq ht ln p (by decide)
  have e3 : gI t ln p = nI 70 ↔ gv t ln p = 70 := gI_eq ht ln p (by decide)
  have e4 : gI t ln p = nI 71 ↔ gv t ln p = 71 := gI_eq ht ln p (by decide)
  have e5 : gI t ln p = nI 75 ↔ gv t ln p = 75 := gI_eq ht ln p (by decide)
  refine wp_iload_n d_Mod_rank_0 rfl 0 rfl ?_
  refine wp_bipush (v := nI 83) d_Mod_rank_1 (by decide) ?_
  refine wp_icmp_ne (tgt := 10) d_Mod_rank_3 (by decide) (fun c3 => ?_) (fun c3 => ?_)
  · refine wp_iload_n d_Mod_rank_10 rfl 0 rfl ?_
    refine wp_bipush (v := nI 68) d_Mod_rank_11 (by decide) ?_
    refine wp_icmp_ne (tgt := 20) d_Mod_rank_13 (by decide) (fun c13 => ?_) (fun c13 => ?_)
    · refine wp_iload_n d_Mod_rank_20 rfl 0 rfl ?_
      refine wp_bipush (v := nI 70) d_Mod_rank_21 (by decide) ?_
      refine wp_icmp_ne (tgt := 30) d_Mod_rank_23 (by decide) (fun c23 => ?_) (fun c23 => ?_)
      · refine wp_iload_n d_Mod_rank_30 rfl 0 rfl ?_
        refine wp_bipush (v := nI 71) d_Mod_rank_31 (by decide) ?_
        refine wp_icmp_ne (tgt := 40) d_Mod_rank_33 (by decide) (fun c33 => ?_) (fun c33 => ?_)
        · refine wp_iload_n d_Mod_rank_40 rfl 0 rfl ?_
          refine wp_bipush (v := nI 75) d_Mod_rank_41 (by decide) ?_
          refine wp_icmp_ne (tgt := 50) d_Mod_rank_43 (by decide) (fun c43 => ?_) (fun c43 => ?_)
          · refine wp_iconst (v := -1) d_Mod_rank_50 (by decide) ?_
            exact wp_iret d_Mod_rank_51 rfl ⟨resI (by simp only [e1, e2, e3, e4, e5] at *; simp_all [rkI, rankOf]), rfl⟩
          · refine wp_iconst (v := nI 4) d_Mod_rank_46 (by decide) ?_
            refine wp_goto (tgt := 51) d_Mod_rank_47 (by decide) ?_
            exact wp_iret d_Mod_rank_51 rfl ⟨resI (by simp only [e1, e2, e3, e4, e5] at *; simp_all [rkI, rankOf]), rfl⟩
        · refine wp_iconst (v := nI 3) d_Mod_rank_36 (by decide) ?_
          refine wp_goto (tgt := 51) d_Mod_rank_37 (by decide) ?_
          exact wp_iret d_Mod_rank_51 rfl ⟨resI (by simp only [e1, e2, e3, e4, e5] at *; simp_all [rkI, rankOf]), rfl⟩
      · refine wp_iconst (v := nI 2) d_Mod_rank_26 (by decide) ?_
        refine wp_goto (tgt := 51) d_Mod_rank_27 (by decide) ?_
        exact wp_iret d_Mod_rank_51 rfl ⟨resI (by simp only [e1, e2, e3, e4, e5] at *; simp_all [rkI, rankOf]), rfl⟩
    · refine wp_iconst (v := nI 1) d_Mod_rank_16 (by decide) ?_
      refine wp_goto (tgt := 51) d_Mod_rank_17 (by decide) ?_
      exact wp_iret d_Mod_rank_51 rfl ⟨resI (by simp only [e1, e2, e3, e4, e5] at *; simp_all [rkI, rankOf]), rfl⟩
  · refine wp_iconst (v := nI 0) d_Mod_rank_6 (by decide) ?_
    refine wp_goto (tgt := 51) d_Mod_rank_7 (by decide) ?_
    exact wp_iret d_Mod_rank_51 rfl ⟨resI (by simp only [e1, e2, e3, e4, e5] at *; simp_all [rkI, rankOf]), rfl⟩
set_option maxRecDepth 20000 in
theorem c_Mod_isSign {G : Gt} {h : AHp} {t : Nat → Nat} (ht : ∀ p, t p < 256) (ln p : Nat) : CallR G m_Mod_isSign 2 26 [.int (gI t ln p)] h 0 0 (some (.int (bI (isSgn (gv t ln p))))) h := by
  refine CallS.of (Nat.le_of_ble_eq_true rfl) ?_
  have e32 : gI t ln p = nI 32 ↔ gv t ln p = 32 := gI_eq ht ln p (by decide)
  have e45 : gI t ln p = nI 45 ↔ gv t ln p = 45 := gI_eq ht ln p (by decide)
  have e63 : gI t ln p = nI 63 ↔ gv t ln p = 63 := gI_eq ht ln p (by decide)
  have e58 : gI t ln p = nI 58 ↔ gv t ln p = 58 := gI_eq ht ln p (by decide)
  have e40 : gI t ln p = nI 40 ↔ gv t ln p = 40 := gI_eq ht ln p (by decide)
  have e41 : gI t ln p = nI 41 ↔ gv t ln p = 41 := gI_eq ht ln p (by decide)
  have e46 : gI t ln p = nI 46 ↔ gv t ln p = 46 := gI_eq ht ln p (by decide)
  have e44 : gI t ln p = nI 44 ↔ gv t ln p = 44 := gI_eq ht ln p (by decide)
  have e39 : gI t ln p = nI 39 ↔ gv t ln p = 39 := gI_eq ht ln p (by decide)
  have e47 : gI t ln p = nI 47 ↔ gv t ln p = 47 := gI_eq ht ln p (by decide)
  have e43 : gI t ln p = nI 43 ↔ gv t ln p = 43 := gI_eq ht ln p (by decide)
  have e61 : gI t ln p = nI 61 ↔ gv t ln p = 61 := gI_eq ht ln p (by decide)
  refine wp_iload_n d_Mod_isSign_0 rfl 0 rfl ?_
  refine wp_callV (r := 0) d_Mod_isSign_1 (link_S (av := [.int (gI t ln p)]) (rest := []) d_Mod_isSign_1 cal_Mod_isLetter wM_Mod_130 rfl) cal_Mod_isLetter (c_Mod_isLetterG ht _ _) (Nat.le_of_ble_eq_true rfl) ⟨Nat.le_of_ble_eq_true rfl, Nat.le_of_ble_eq_true rfl⟩ ?_
  refine wp_if_neB (tgt := 86) d_Mod_isSign_4 (by decide) (fun c4 => ?_) (fun c4 => ?_)
  · refine wp_iconst (v := nI 1) d_Mod_isSign_86 (by decide) ?_
    refine wp_goto (tgt := 91) d_Mod_isSign_87 (by decide) ?_
    exact wp_zret (ty := .boolean) d_Mod_isSign_91 rfl rfl ⟨resI (bI_one (by simp only [e32, e45, e63, e58, e40, e41, e46, e44, e39, e47, e43, e61] at *; simp_all [isSgn])), rfl⟩
  · refine wp_iload_n d_Mod_isSign_7 rfl 0 rfl ?_
    refine wp_callV (r := 0) d_Mod_isSign_8 (link_S (av := [.int (gI t ln p)]) (rest := []) d_Mod_isSign_8 cal_Mod_isDigit wM_Mod_145 rfl) cal_Mod_isDigit (c_Mod_isDigitG ht _ _) (Nat.le_of_ble_eq_true rfl) ⟨Nat.le_of_ble_eq_true rfl, Nat.le_of_ble_eq_true rfl⟩ ?_
    refine wp_if_neB (tgt := 86) d_Mod_isSign_11 (by decide) (fun c11 => ?_) (fun c11 => ?_)
    · refine wp_iconst (v := nI 1) d_Mod_isSign_86 (by decide) ?_
      refine wp_goto (tgt := 91) d_Mod_isSign_87 (by decide) ?_
      exact wp_zret (ty := .boolean) d_Mod_isSign_91 rfl rfl ⟨resI (bI_one (by simp only [e32, e45, e63, e58, e40, e41, e46, e44, e39, e47, e43, e61] at *; simp_all [isSgn])), rfl⟩
    · refine wp_iload_n d_Mod_isSign_14 rfl 0 rfl ?_
      refine wp_bipush (v := nI 32) d_Mod_isSign_15 (by decide) ?_
      refine wp_icmp_eq (tgt := 86) d_Mod_isSign_17 (by decide) (fun c17 => ?_) (fun c17 => ?_)
      · refine wp_iconst (v := nI 1) d_Mod_isSign_86 (by decide) ?_
        refine wp_goto (tgt := 91) d_Mod_isSign_87 (by decide) ?_
        exact wp_zret (ty := .boolean) d_Mod_isSign_91 rfl rfl ⟨resI (bI_one (by simp only [e32, e45, e63, e58, e40, e41, e46, e44, e39, e47, e43, e61] at *; simp_all [isSgn])), rfl⟩
      · refine wp_iload_n d_Mod_isSign_20 rfl 0 rfl ?_
        refine wp_bipush (v := nI 45) d_Mod_isSign_21 (by decide) ?_
        refine wp_icmp_eq (tgt := 86) d_Mod_isSign_23 (by decide) (fun c23 => ?_) (fun c23 => ?_)
        · refine wp_iconst (v := nI 1) d_Mod_isSign_86 (by decide) ?_
          refine wp_goto (tgt := 91) d_Mod_isSign_87 (by decide) ?_
          exact wp_zret (ty := .boolean) d_Mod_isSign_91 rfl rfl ⟨resI (bI_one (by simp only [e32, e45, e63, e58, e40, e41, e46, e44, e39, e47, e43, e61] at *; simp_all [isSgn])), rfl⟩
        · refine wp_iload_n d_Mod_isSign_26 rfl 0 rfl ?_
          refine wp_bipush (v := nI 63) d_Mod_isSign_27 (by decide) ?_
          refine wp_icmp_eq (tgt := 86) d_Mod_isSign_29 (by decide) (fun c29 => ?_) (fun c29 => ?_)
          · refine wp_iconst (v := nI 1) d_Mod_isSign_86 (by decide) ?_
            refine wp_goto (tgt := 91) d_Mod_isSign_87 (by decide) ?_
            exact wp_zret (ty := .boolean) d_Mod_isSign_91 rfl rfl ⟨resI (bI_one (by simp only [e32, e45, e63, e58, e40, e41, e46, e44, e39, e47, e43, e61] at *; simp_all [isSgn])), rfl⟩
          · refine wp_iload_n d_Mod_isSign_32 rfl 0 rfl ?_
            refine wp_bipush (v := nI 58) d_Mod_isSign_33 (by decide) ?_
            refine wp_icmp_eq (tgt := 86) d_Mod_isSign_35 (by decide) (fun c35 => ?_) (fun c35 => ?_)
            · refine wp_iconst (v := nI 1) d_Mod_isSign_86 (by decide) ?_
              refine wp_goto (tgt := 91) d_Mod_isSign_87 (by decide) ?_
              exact wp_zret (ty := .boolean) d_Mod_isSign_91 rfl rfl ⟨resI (bI_one (by simp only [e32, e45, e63, e58, e40, e41, e46, e44, e39, e47, e43, e61] at *; simp_all [isSgn])), rfl⟩
            · refine wp_iload_n d_Mod_isSign_38 rfl 0 rfl ?_
              refine wp_bipush (v := nI 40) d_Mod_isSign_39 (by decide) ?_
              refine wp_icmp_eq (tgt := 86) d_Mod_isSign_41 (by decide) (fun c41 => ?_) (fun c41 => ?_)
              · refine wp_iconst (v := nI 1) d_Mod_isSign_86 (by decide) ?_
                refine wp_goto (tgt := 91) d_Mod_isSign_87 (by decide) ?_
                exact wp_zret (ty := .boolean) d_Mod_isSign_91 rfl rfl ⟨resI (bI_one (by simp only [e32, e45, e63, e58, e40, e41, e46, e44, e39, e47, e43, e61] at *; simp_all [isSgn])), rfl⟩
              · refine wp_iload_n d_Mod_isSign_44 rfl 0 rfl ?_
                refine wp_bipush (v := nI 41) d_Mod_isSign_45 (by decide) ?_
                refine wp_icmp_eq (tgt := 86) d_Mod_isSign_47 (by decide) (fun c47 => ?_) (fun c47 => ?_)
                · refine wp_iconst (v := nI 1) d_Mod_isSign_86 (by decide) ?_
                  refine wp_goto (tgt := 91) d_Mod_isSign_87 (by decide) ?_
                  exact wp_zret (ty := .boolean) d_Mod_isSign_91 rfl rfl ⟨resI (bI_one (by simp only [e32, e45, e63, e58, e40, e41, e46, e44, e39, e47, e43, e61] at *; simp_all [isSgn])), rfl⟩
                · refine wp_iload_n d_Mod_isSign_50 rfl 0 rfl ?_
                  refine wp_bipush (v := nI 46) d_Mod_isSign_51 (by decide) ?_
                  refine wp_icmp_eq (tgt := 86) d_Mod_isSign_53 (by decide) (fun c53 => ?_) (fun c53 => ?_)
                  · refine wp_iconst (v := nI 1) d_Mod_isSign_86 (by decide) ?_
                    refine wp_goto (tgt := 91) d_Mod_isSign_87 (by decide) ?_
                    exact wp_zret (ty := .boolean) d_Mod_isSign_91 rfl rfl ⟨resI (bI_one (by simp only [e32, e45, e63, e58, e40, e41, e46, e44, e39, e47, e43, e61] at *; simp_all [isSgn])), rfl⟩
                  · refine wp_iload_n d_Mod_isSign_56 rfl 0 rfl ?_
                    refine wp_bipush (v := nI 44) d_Mod_isSign_57 (by decide) ?_
                    refine wp_icmp_eq (tgt := 86) d_Mod_isSign_59 (by decide) (fun c59 => ?_) (fun c59 => ?_)
                    · refine wp_iconst (v := nI 1) d_Mod_isSign_86 (by decide) ?_
                      refine wp_goto (tgt := 91) d_Mod_isSign_87 (by decide) ?_
                      exact wp_zret (ty := .boolean) d_Mod_isSign_91 rfl rfl ⟨resI (bI_one (by simp only [e32, e45, e63, e58, e40, e41, e46, e44, e39, e47, e43, e61] at *; simp_all [isSgn])), rfl⟩
                    · refine wp_iload_n d_Mod_isSign_62 rfl 0 rfl ?_
                      refine wp_bipush (v := nI 39) d_Mod_isSign_63 (by decide) ?_
                      refine wp_icmp_eq (tgt := 86) d_Mod_isSign_65 (by decide) (fun c65 => ?_) (fun c65 => ?_)
                      · refine wp_iconst (v := nI 1) d_Mod_isSign_86 (by decide) ?_
                        refine wp_goto (tgt := 91) d_Mod_isSign_87 (by decide) ?_
                        exact wp_zret (ty := .boolean) d_Mod_isSign_91 rfl rfl ⟨resI (bI_one (by simp only [e32, e45, e63, e58, e40, e41, e46, e44, e39, e47, e43, e61] at *; simp_all [isSgn])), rfl⟩
                      · refine wp_iload_n d_Mod_isSign_68 rfl 0 rfl ?_
                        refine wp_bipush (v := nI 47) d_Mod_isSign_69 (by decide) ?_
                        refine wp_icmp_eq (tgt := 86) d_Mod_isSign_71 (by decide) (fun c71 => ?_) (fun c71 => ?_)
                        · refine wp_iconst (v := nI 1) d_Mod_isSign_86 (by decide) ?_
                          refine wp_goto (tgt := 91) d_Mod_isSign_87 (by decide) ?_
                          exact wp_zret (ty := .boolean) d_Mod_isSign_91 rfl rfl ⟨resI (bI_one (by simp only [e32, e45, e63, e58, e40, e41, e46, e44, e39, e47, e43, e61] at *; simp_all [isSgn])), rfl⟩
                        · refine wp_iload_n d_Mod_isSign_74 rfl 0 rfl ?_
                          refine wp_bipush (v := nI 43) d_Mod_isSign_75 (by decide) ?_
                          refine wp_icmp_eq (tgt := 86) d_Mod_isSign_77 (by decide) (fun c77 => ?_) (fun c77 => ?_)
                          · refine wp_iconst (v := nI 1) d_Mod_isSign_86 (by decide) ?_
                            refine wp_goto (tgt := 91) d_Mod_isSign_87 (by decide) ?_
                            exact wp_zret (ty := .boolean) d_Mod_isSign_91 rfl rfl ⟨resI (bI_one (by simp only [e32, e45, e63, e58, e40, e41, e46, e44, e39, e47, e43, e61] at *; simp_all [isSgn])), rfl⟩
                          · refine wp_iload_n d_Mod_isSign_80 rfl 0 rfl ?_
                            refine wp_bipush (v := nI 61) d_Mod_isSign_81 (by decide) ?_
                            refine wp_icmp_ne (tgt := 90) d_Mod_isSign_83 (by decide) (fun c83 => ?_) (fun c83 => ?_)
                            · refine wp_iconst (v := nI 0) d_Mod_isSign_90 (by decide) ?_
                              exact wp_zret (ty := .boolean) d_Mod_isSign_91 rfl rfl ⟨resI (bI_zero (by simp only [e32, e45, e63, e58, e40, e41, e46, e44, e39, e47, e43, e61] at *; simp_all [isSgn])), rfl⟩
                            · refine wp_iconst (v := nI 1) d_Mod_isSign_86 (by decide) ?_
                              refine wp_goto (tgt := 91) d_Mod_isSign_87 (by decide) ?_
                              exact wp_zret (ty := .boolean) d_Mod_isSign_91 rfl rfl ⟨resI (bI_one (by simp only [e32, e45, e63, e58, e40, e41, e46, e44, e39, e47, e43, e61] at *; simp_all [isSgn])), rfl⟩
end Mod4
