section Cls6
theorem b8_255 : ∀ c, c < 256 → b8 c &&& nI 255 = nI c := by decide +kernel
theorem b8_fit : ∀ c, c < 256 → fits .byte (.int (b8 c)) = true := by decide +kernel
/-- the draft: its bytes t, of which ln are judged -/
def Jd (K N : Nat → Nat) (I : Nat → Nat → Int32) (R : Nat → Nat → Option Nat) (E : Nat → Nat → Int32) (d b da : Nat) (t : Nat → Nat) (ln : Nat) : Prop := (K d = 4 + 1) ∧ (K b = 20 + 2) ∧ (K da = 20 + 1) ∧ (R 21 d = some b) ∧ (R 22 d = some da) ∧ (N b = 1600) ∧ (N da = 7) ∧ (ln ≤ 1600) ∧ (I 25 d = nI ln) ∧ (∀ p, p < 1600 → E b p = b8 (t p)) ∧ (∀ p, t p < 256)
theorem Jd.kd {K N : Nat → Nat} {I : Nat → Nat → Int32} {R : Nat → Nat → Option Nat} {E : Nat → Nat → Int32} {d b da : Nat} {t : Nat → Nat} {ln : Nat} (h : Jd K N I R E d b da t ln) : K d = 4 + 1 := h.1
theorem Jd.kb {K N : Nat → Nat} {I : Nat → Nat → Int32} {R : Nat → Nat → Option Nat} {E : Nat → Nat → Int32} {d b da : Nat} {t : Nat → Nat} {ln : Nat} (h : Jd K N I R E d b da t ln) : K b = 20 + 2 := h.2.1
theorem Jd.ka {K N : Nat → Nat} {I : Nat → Nat → Int32} {R : Nat → Nat → Option Nat} {E : Nat → Nat → Int32} {d b da : Nat} {t : Nat → Nat} {ln : Nat} (h : Jd K N I R E d b da t ln) : K da = 20 + 1 := h.2.2.1
theorem Jd.rb {K N : Nat → Nat} {I : Nat → Nat → Int32} {R : Nat → Nat → Option Nat} {E : Nat → Nat → Int32} {d b da : Nat} {t : Nat → Nat} {ln : Nat} (h : Jd K N I R E d b da t ln) : R 21 d = some b := h.2.2.2.1
theorem Jd.ra {K N : Nat → Nat} {I : Nat → Nat → Int32} {R : Nat → Nat → Option Nat} {E : Nat → Nat → Int32} {d b da : Nat} {t : Nat → Nat} {ln : Nat} (h : Jd K N I R E d b da t ln) : R 22 d = some da := h.2.2.2.2.1
theorem Jd.nb {K N : Nat → Nat} {I : Nat → Nat → Int32} {R : Nat → Nat → Option Nat} {E : Nat → Nat → Int32} {d b da : Nat} {t : Nat → Nat} {ln : Nat} (h : Jd K N I R E d b da t ln) : N b = 1600 := h.2.2.2.2.2.1
theorem Jd.na {K N : Nat → Nat} {I : Nat → Nat → Int32} {R : Nat → Nat → Option Nat} {E : Nat → Nat → Int32} {d b da : Nat} {t : Nat → Nat} {ln : Nat} (h : Jd K N I R E d b da t ln) : N da = 7 := h.2.2.2.2.2.2.1
theorem Jd.le {K N : Nat → Nat} {I : Nat → Nat → Int32} {R : Nat → Nat → Option Nat} {E : Nat → Nat → Int32} {d b da : Nat} {t : Nat → Nat} {ln : Nat} (h : Jd K N I R E d b da t ln) : ln ≤ 1600 := h.2.2.2.2.2.2.2.1
theorem Jd.ln {K N : Nat → Nat} {I : Nat → Nat → Int32} {R : Nat → Nat → Option Nat} {E : Nat → Nat → Int32} {d b da : Nat} {t : Nat → Nat} {ln : Nat} (h : Jd K N I R E d b da t ln) : I 25 d = nI ln := h.2.2.2.2.2.2.2.2.1
theorem Jd.bt {K N : Nat → Nat} {I : Nat → Nat → Int32} {R : Nat → Nat → Option Nat} {E : Nat → Nat → Int32} {d b da : Nat} {t : Nat → Nat} {ln : Nat} (h : Jd K N I R E d b da t ln) : ∀ p, p < 1600 → E b p = b8 (t p) := h.2.2.2.2.2.2.2.2.2.1
theorem Jd.ht {K N : Nat → Nat} {I : Nat → Nat → Int32} {R : Nat → Nat → Option Nat} {E : Nat → Nat → Int32} {d b da : Nat} {t : Nat → Nat} {ln : Nat} (h : Jd K N I R E d b da t ln) : ∀ p, t p < 256 := h.2.2.2.2.2.2.2.2.2.2
theorem Jd.I {K N : Nat → Nat} {I I' : Nat → Nat → Int32} {R : Nat → Nat → Option Nat} {E : Nat → Nat → Int32} {d b da : Nat} {t : Nat → Nat} {ln : Nat} (h : Jd K N I R E d b da t ln) (hi : I' 25 d = I 25 d) : Jd K N I' R E d b da t ln := ⟨h.kd, h.kb, h.ka, h.rb, h.ra, h.nb, h.na, h.le, hi.trans h.ln, h.bt, h.ht⟩
def fltI (f : Nat × Nat) : Int32 := -1 - nI (10 * f.1) - nI f.2
def dF (d : Nat) (I I' : Nat → Nat → Int32) : Prop := ∀ g q, (q ≠ d ∨ (g ≠ 26 ∧ g ≠ 27)) → I' g q = I g q
def DP (res : PR Nat) (d : Nat) (I I' : Nat → Nat → Int32) : Prop := dF d I I' ∧ (∀ b, res = .inl b → I' 26 d = nI b) ∧ ∀ f, res = .inr f → I' 27 d = fltI f
theorem dF_0 {d : Nat} {I : Nat → Nat → Int32} : dF d I I := fun _ _ _ => rfl
theorem dF.tr {d : Nat} {I I1 I2 : Nat → Nat → Int32} (h : dF d I I1) (h2 : dF d I1 I2) : dF d I I2 := fun g q hq => (h2 g q hq).trans (h g q hq)
theorem dF_u {d g : Nat} {I : Nat → Nat → Int32} {x : Int32} (hg : g = 26 ∨ g = 27) : dF d I (u2 I g d x) := by
  intro g2 q hq
  by_cases hd : q = d
  · rw [u2_ne _ _ (by omega)]
  · exact u2_q _ _ hd
theorem DP_no {d a r : Nat} {I : Nat → Nat → Int32} : DP (.inr (a, r)) d I (u2 I 27 d (fltI (a, r))) := ⟨dF_u (Or.inr rfl), fun b hb => (by cases hb), fun f hf => by cases hf; rw [u2_at, if_pos rfl]⟩
theorem DP_ok {d a : Nat} {I : Nat → Nat → Int32} : DP (.inl a) d I (u2 I 26 d (nI a)) := ⟨dF_u (Or.inl rfl), fun b hb => by cases hb; rw [u2_at, if_pos rfl], fun f hf => (by cases hf)⟩
theorem DP.tr {res : PR Nat} {d : Nat} {I I1 I2 : Nat → Nat → Int32} (h1 : dF d I I1) (h2 : DP res d I1 I2) : DP res d I I2 := ⟨h1.tr h2.1, h2.2⟩
set_option maxRecDepth 20000 in
theorem c_Drf_byteAt {G : Gt} {K N : Nat → Nat} {I : Nat → Nat → Int32} {R : Nat → Nat → Option Nat} {L : Nat → Nat → Int64} {E : Nat → Nat → Int32} {El : Nat → Nat → Int64} {Er : Nat → Nat → Option Nat} {d b da : Nat} {t : Nat → Nat} {ln : Nat} (hJ : Jd K N I R E d b da t ln) {p : Nat} (hp : p < 2 ^ 31) : CallR G m_Drf_byteAt 0 0 [.ref d, .int (nI p)] (hN K N I R L E El Er) 0 0 (some (.int (gI t ln p))) (hN K N I R L E El Er) := by
  have hln := hJ.le
  refine CallS.of (Nat.le_of_ble_eq_true rfl) ?_
  refine wp_iload_n d_Drf_byteAt_0 rfl 1 rfl ?_
  refine wp_if_ltN (tgt := 32) d_Drf_byteAt_1 (by decide) (by omega) ?_
  refine wp_iload_n d_Drf_byteAt_4 rfl 1 rfl ?_
  refine wp_aload_n d_Drf_byteAt_5 rfl 0 rfl ?_
  refine wn_get_Drf d_Drf_byteAt_6 (hJ.kd) 4 (by decide) wF_Drf_19 rfl ?_
  refine wp_toI (z := (nI ln)) (hJ.ln) ?_
  refine wp_geN (tgt := 32) d_Drf_byteAt_9 (by decide) (by omega) (by omega) (fun c9 => ?_) (fun c9 => ?_)
  · refine wp_iconst (v := -1) d_Drf_byteAt_32 (by decide) ?_
    exact wp_iret d_Drf_byteAt_33 rfl ⟨resI (gI_out (by omega)), rfl⟩
  · refine wp_iload_n d_Drf_byteAt_12 rfl 1 rfl ?_
    refine wp_sipush (v := nI 1600) d_Drf_byteAt_13 (by decide) ?_
    refine wp_geN (tgt := 32) d_Drf_byteAt_16 (by decide) (by omega) (by omega) (fun c16 => ?_) (fun c16 => ?_)
    · refine wp_iconst (v := -1) d_Drf_byteAt_32 (by decide) ?_
      exact wp_iret d_Drf_byteAt_33 rfl ⟨resI (gI_out (by omega)), rfl⟩
    · refine wp_aload_n d_Drf_byteAt_19 rfl 0 rfl ?_
      refine wn_get_Drf d_Drf_byteAt_20 (hJ.kd) 0 (by decide) wF_Drf_9 rfl ?_
      refine wp_toVR (o := some b) (z := .ref b) (hJ.rb) rfl ?_
      refine wp_iload_n d_Drf_byteAt_23 rfl 1 rfl ?_
      refine wn_bld (x := (b8 (t p))) d_Drf_byteAt_24 (hJ.kb) (by rw [hJ.nb]; omega) (by rw [hJ.nb]; omega) (hJ.bt p (by omega)) ?_
      refine wp_sipush (v := nI 255) d_Drf_byteAt_25 (by decide) ?_
      refine wp_iand d_Drf_byteAt_28 ?_
      refine wp_toI (z := nI (t p)) (b8_255 _ (hJ.ht p)) ?_
      refine wp_goto (tgt := 33) d_Drf_byteAt_29 (by decide) ?_
      exact wp_iret d_Drf_byteAt_33 rfl ⟨resI (gI_in (by omega)), rfl⟩
set_option maxRecDepth 20000 in
theorem c_Drf_tell {G : Gt} {K N : Nat → Nat} {I : Nat → Nat → Int32} {R : Nat → Nat → Option Nat} {L : Nat → Nat → Int64} {E : Nat → Nat → Int32} {El : Nat → Nat → Int64} {Er : Nat → Nat → Option Nat} {d r a : Nat} (hd : K d = 4 + 1) : CallR G m_Drf_tell 0 0 [.ref d, .int (nI r), .int (nI a)] (hN K N I R L E El Er) 0 0 (some (.int (nI 0))) (hN K N (u2 I 27 d (fltI (a, r))) R L E El Er) := by
  refine CallS.of (Nat.le_of_ble_eq_true rfl) ?_
  refine wp_aload_n d_Drf_tell_0 rfl 0 rfl ?_
  refine wp_iconst (v := -1) d_Drf_tell_1 (by decide) ?_
  refine wp_bipush (v := nI 10) d_Drf_tell_2 (by decide) ?_
  refine wp_iload_n d_Drf_tell_4 rfl 2 rfl ?_
  refine wp_imulN d_Drf_tell_5 ?_
  refine wp_isub d_Drf_tell_6 ?_
  refine wp_iload_n d_Drf_tell_7 rfl 1 rfl ?_
  refine wp_isub d_Drf_tell_8 ?_
  refine wn_put_Drf (ty := t_Drf 6) (I' := u2 I 27 d (((-1) - (nI (10 * a))) - (nI r))) (R' := R) (L' := L) d_Drf_tell_9 (hd) 6 (by decide) wF_Drf_56 rfl (t_Drf_ok 6 (by decide)) rfl rfl sF_27 (oI _ _ _ 27 _) ?_
  refine wp_iconst (v := nI 0) d_Drf_tell_12 (by decide) ?_
  exact wp_zret (ty := .boolean) d_Drf_tell_13 rfl rfl ⟨rfl, rfl⟩
theorem c_Net_isLetterG {G : Gt} {h : AHp} {t : Nat → Nat} (ht : ∀ p, t p < 256) (ln p : Nat) : CallR G m_Net_isLetter 0 0 [.int (gI t ln p)] h 0 0 (some (.int (bI (isLet (gv t ln p))))) h :=
  CallR.eq (c_Net_isLetter (gI t ln p)) (by rw [inZ_g ht ln p (by decide) (by decide)]; rfl) rfl
theorem c_Net_isDigitG {G : Gt} {h : AHp} {t : Nat → Nat} (ht : ∀ p, t p < 256) (ln p : Nat) : CallR G m_Net_isDigit 0 0 [.int (gI t ln p)] h 0 0 (some (.int (bI (isDig (gv t ln p))))) h :=
  CallR.eq (c_Net_isDigit (gI t ln p)) (by rw [inZ_g ht ln p (by decide) (by decide)]; rfl) rfl
set_option maxRecDepth 20000 in
theorem c_Drf_readByte {G : Gt} {K N : Nat → Nat} {I : Nat → Nat → Int32} {R : Nat → Nat → Option Nat} {L : Nat → Nat → Int64} {E : Nat → Nat → Int32} {El : Nat → Nat → Int64} {Er : Nat → Nat → Option Nat} {d b da : Nat} {t : Nat → Nat} {ln : Nat} (hJ : Jd K N I R E d b da t ln) {a c r : Nat} (ha : I 26 d = nI a) (hab : a < 2 ^ 30) (hc : c < 2 ^ 31) : CallE G m_Drf_readByte 1 14 [.ref d, .int (nI c), .int (nI r)] (hN K N I R L E El Er) 0 0 (some (.int (bI (pByte (gv t ln) c r a).isLeft))) (fun h' => ∃ I', h' = hN K N I' R L E El Er ∧ DP (pByte (gv t ln) c r a) d I I') := by
  have hres1 : gI t ln a = nI c → pByte (gv t ln) c r a = .inl (a + 1) := fun q => by
    have := (gI_eq hJ.ht ln a hc).mp q
    simp [pByte, this]
  have hres0 : ¬ gI t ln a = nI c → pByte (gv t ln) c r a = .inr (a, r) := fun q => by
    have h9 : ¬ gv t ln a = (c : Int) := fun e => q ((gI_eq hJ.ht ln a hc).mpr e)
    simp [pByte, h9]
  refine CallS.of (Nat.le_of_ble_eq_true rfl) ?_
  refine wp_aload_n d_Drf_readByte_0 rfl 0 rfl ?_
  refine wp_aload_n d_Drf_readByte_1 rfl 0 rfl ?_
  refine wn_get_Drf d_Drf_readByte_2 (hJ.kd) 5 (by decide) wF_Drf_74 rfl ?_
  refine wp_toI (z := (nI a)) (ha) ?_
  refine wp_callV (r := 0) d_Drf_readByte_5 (link_V (as := [.int (nI a)]) (rest := []) (r := (R_Drf, T_Drf, 7)) d_Drf_readByte_5 cal_Drf_byteAt wM_Drf_59 rfl (hN_o (hJ.kd) (by decide)) rfl) cal_Drf_byteAt (c_Drf_byteAt hJ (by omega)) (Nat.le_of_ble_eq_true rfl) ⟨Nat.le_of_ble_eq_true rfl, Nat.le_of_ble_eq_true rfl⟩ ?_
  refine wp_iload_n d_Drf_readByte_8 rfl 1 rfl ?_
  refine wp_icmp_eq (tgt := 22) d_Drf_readByte_9 (by decide) (fun c9 => ?_) (fun c9 => ?_)
  · refine wp_aload_n d_Drf_readByte_22 rfl 0 rfl ?_
    refine wp_dup d_Drf_readByte_23 rfl ?_
    refine wn_get_Drf d_Drf_readByte_24 (hJ.kd) 5 (by decide) wF_Drf_74 rfl ?_
    refine wp_toI (z := (nI a)) (ha) ?_
    refine wp_iconst (v := nI 1) d_Drf_readByte_27 (by decide) ?_
    refine wp_iaddN d_Drf_readByte_28 ?_
    refine wn_put_Drf (ty := t_Drf 5) (I' := u2 I 26 d (nI (a + 1))) (R' := R) (L' := L) d_Drf_readByte_29 (hJ.kd) 5 (by decide) wF_Drf_74 rfl (t_Drf_ok 5 (by decide)) rfl rfl sF_26 (oI _ _ _ 26 _) ?_
    refine wp_iconst (v := nI 1) d_Drf_readByte_32 (by decide) ?_
    exact wp_zret (ty := .boolean) d_Drf_readByte_33 rfl rfl ⟨resI (bI_one (by rw [hres1 c9]; rfl)), _, rfl, by rw [hres1 c9]; exact DP_ok⟩
  · refine wp_aload_n d_Drf_readByte_12 rfl 0 rfl ?_
    refine wp_iload_n d_Drf_readByte_13 rfl 2 rfl ?_
    refine wp_aload_n d_Drf_readByte_14 rfl 0 rfl ?_
    refine wn_get_Drf d_Drf_readByte_15 (hJ.kd) 5 (by decide) wF_Drf_74 rfl ?_
    refine wp_toI (z := (nI a)) (ha) ?_
    refine wp_callV (r := 0) d_Drf_readByte_18 (link_V (as := [.int (nI r), .int (nI a)]) (rest := []) (r := (R_Drf, T_Drf, 7)) d_Drf_readByte_18 cal_Drf_tell wM_Drf_70 rfl (hN_o (hJ.kd) (by decide)) rfl) cal_Drf_tell (c_Drf_tell (r := r) (a := a) hJ.kd) (Nat.le_of_ble_eq_true rfl) ⟨Nat.le_of_ble_eq_true rfl, Nat.le_of_ble_eq_true rfl⟩ ?_
    exact wp_zret (ty := .boolean) d_Drf_readByte_21 rfl rfl ⟨resI (bI_zero (by rw [hres0 c9]; rfl)), _, rfl, by rw [hres0 c9]; exact DP_no⟩
set_option maxRecDepth 20000 in
theorem c_Drf_readLetters {G : Gt} {K N : Nat → Nat} {I : Nat → Nat → Int32} {R : Nat → Nat → Option Nat} {L : Nat → Nat → Int64} {E : Nat → Nat → Int32} {El : Nat → Nat → Int64} {Er : Nat → Nat → Option Nat} {d b da : Nat} {t : Nat → Nat} {ln : Nat} (hJ : Jd K N I R E d b da t ln) {a r : Nat} (ha : I 26 d = nI a) (hab : a < 2 ^ 30) : CallE G m_Drf_readLetters 1 14 [.ref d, .int (nI r)] (hN K N I R L E El Er) 0 0 (some (.int (bI (pLet (gv t ln) r 8 a).isLeft))) (fun h' => ∃ I', h' = hN K N I' R L E El Er ∧ DP (pLet (gv t ln) r 8 a) d I I') := by
  refine CallS.of (Nat.le_of_ble_eq_true rfl) ?_
  have L2 : ∀ (f k : Nat) (F : Nat → Nat → Int32), 8 - k < f → k ≤ 8 → F 26 d = nI (a + k) → dF d I F → pLet (gv t ln) r 8 a = pLet (gv t ln) r (8 - k) (a + k) → WP G m_Drf_readLetters (1, 14, 0, 0, (hN K N I R L E El Er), fun r9 h9 => r9 = .inl (some (.int (bI (pLet (gv t ln) r 8 a).isLeft))) ∧ (fun h' => ∃ I', h' = hN K N I' R L E El Er ∧ DP (pLet (gv t ln) r 8 a) d I I') h9) 2 [(2, .int (nI k)), (0, .ref d), (1, .int (nI r))] [] (hN K N F R L E El Er) 0 0 := by
    intro f
    induction f with
    | zero =>
      intro k F h1
      omega
    | succ f ih =>
      intro k F hf hk hF hfr hp
      have hJ : Jd K N F R E d b da t ln := hJ.I (hfr 25 d (Or.inr ⟨by decide, by decide⟩))
      have hend : 8 ≤ k → pLet (gv t ln) r 8 a = .inl (a + 8) := fun h => by rw [hp, show 8 - k = 0 by omega, pLet, show a + k = a + 8 by omega]
      have hno : isLet (gv t ln (a + k)) = false → k < 8 → pLet (gv t ln) r 8 a = .inr (a + k, r) := fun h h8 => by rw [hp, show 8 - k = (7 - k) + 1 by omega, pLet, h]; rfl
      refine wp_iload_n d_Drf_readLetters_2 rfl 0 rfl ?_
      refine wp_bipush (v := nI 8) d_Drf_readLetters_3 (by decide) ?_
      refine wp_geN (tgt := 48) d_Drf_readLetters_5 (by decide) (by omega) (by omega) (fun c5 => ?_) (fun c5 => ?_)
      · refine wp_iconst (v := nI 1) d_Drf_readLetters_48 (by decide) ?_
        exact wp_zret (ty := .boolean) d_Drf_readLetters_49 rfl rfl ⟨resI (bI_one (by rw [hend (by omega)]; rfl)), _, rfl, by rw [hend (by omega)]; exact ⟨hfr, fun b hb => by cases hb; rw [hF, show a + k = a + 8 by omega], fun f hf => (by cases hf)⟩⟩
      · refine wp_aload_n d_Drf_readLetters_8 rfl 1 rfl ?_
        refine wp_aload_n d_Drf_readLetters_9 rfl 1 rfl ?_
        refine wn_get_Drf d_Drf_readLetters_10 (hJ.kd) 5 (by decide) wF_Drf_74 rfl ?_
        refine wp_toI (z := (nI (a + k))) (hF) ?_
        refine wp_callV (r := 0) d_Drf_readLetters_13 (link_V (as := [.int (nI (a + k))]) (rest := []) (r := (R_Drf, T_Drf, 7)) d_Drf_readLetters_13 cal_Drf_byteAt wM_Drf_59 rfl (hN_o (hJ.kd) (by decide)) rfl) cal_Drf_byteAt (c_Drf_byteAt hJ (by omega)) (Nat.le_of_ble_eq_true rfl) ⟨Nat.le_of_ble_eq_true rfl, Nat.le_of_ble_eq_true rfl⟩ ?_
        refine wp_callV (r := 0) d_Drf_readLetters_16 (link_SN (av := [.int (gI t ln (a + k))]) (rest := []) d_Drf_readLetters_16 cal_Net_isLetter wN_Drf_100 wM_Drf_100 rfl) cal_Net_isLetter (c_Net_isLetterG hJ.ht _ _) (Nat.le_of_ble_eq_true rfl) ⟨Nat.le_of_ble_eq_true rfl, Nat.le_of_ble_eq_true rfl⟩ ?_
        refine wp_if_neB (tgt := 32) d_Drf_readLetters_19 (by decide) (fun c19 => ?_) (fun c19 => ?_)
        · refine wp_aload_n d_Drf_readLetters_32 rfl 1 rfl ?_
          refine wp_dup d_Drf_readLetters_33 rfl ?_
          refine wn_get_Drf d_Drf_readLetters_34 (hJ.kd) 5 (by decide) wF_Drf_74 rfl ?_
          refine wp_toI (z := (nI (a + k))) (hF) ?_
          refine wp_iconst (v := nI 1) d_Drf_readLetters_37 (by decide) ?_
          refine wp_iaddN d_Drf_readLetters_38 ?_
          refine wn_put_Drf (ty := t_Drf 5) (I' := u2 F 26 d (nI ((a + k) + 1))) (R' := R) (L' := L) d_Drf_readLetters_39 (hJ.kd) 5 (by decide) wF_Drf_74 rfl (t_Drf_ok 5 (by decide)) rfl rfl sF_26 (oI _ _ _ 26 _) ?_
          refine wp_iinc (lv' := [(2, .int (nI (k + 1))), (0, .ref d), (1, .int (nI r))]) d_Drf_readLetters_42 0 rfl (nI_1 _) (by decide) rfl ?_
          refine wp_goto (tgt := 2) d_Drf_readLetters_45 (by decide) ?_
          exact ih (k + 1) _ (by omega) (by omega) (by rw [u2_at, if_pos rfl, Nat.add_assoc]) (hfr.tr (dF_u (Or.inl rfl))) (by rw [hp, show 8 - k = (8 - (k + 1)) + 1 by omega, pLet, if_pos c19]; rfl)
        · refine wp_aload_n d_Drf_readLetters_22 rfl 1 rfl ?_
          refine wp_iload_n d_Drf_readLetters_23 rfl 2 rfl ?_
          refine wp_aload_n d_Drf_readLetters_24 rfl 1 rfl ?_
          refine wn_get_Drf d_Drf_readLetters_25 (hJ.kd) 5 (by decide) wF_Drf_74 rfl ?_
          refine wp_toI (z := (nI (a + k))) (hF) ?_
          refine wp_callV (r := 0) d_Drf_readLetters_28 (link_V (as := [.int (nI r), .int (nI (a + k))]) (rest := []) (r := (R_Drf, T_Drf, 7)) d_Drf_readLetters_28 cal_Drf_tell wM_Drf_70 rfl (hN_o (hJ.kd) (by decide)) rfl) cal_Drf_tell (c_Drf_tell (r := r) (a := a + k) hJ.kd) (Nat.le_of_ble_eq_true rfl) ⟨Nat.le_of_ble_eq_true rfl, Nat.le_of_ble_eq_true rfl⟩ ?_
          exact wp_zret (ty := .boolean) d_Drf_readLetters_31 rfl rfl ⟨resI (bI_zero (by rw [hno c19 c5]; rfl)), _, rfl, by rw [hno c19 c5]; exact DP.tr hfr DP_no⟩
  refine wp_iconst (v := nI 0) d_Drf_readLetters_0 (by decide) ?_
  refine wp_istore_n (lv' := [(2, .int (nI 0)), (0, .ref d), (1, .int (nI r))]) d_Drf_readLetters_1 rfl (by decide) rfl ?_
  exact L2 9 0 I (by omega) (by omega) ha dF_0 rfl
set_option maxRecDepth 20000 in
theorem c_Drf_readNumber {G : Gt} {K N : Nat → Nat} {I : Nat → Nat → Int32} {R : Nat → Nat → Option Nat} {L : Nat → Nat → Int64} {E : Nat → Nat → Int32} {El : Nat → Nat → Int64} {Er : Nat → Nat → Option Nat} {d b da : Nat} {t : Nat → Nat} {ln : Nat} (hJ : Jd K N I R E d b da t ln) {a lo hi : Nat} (ha : I 26 d = nI a) (hab : a < 2 ^ 30) (hlo : lo < 100) (hhi : hi < 100) : CallE G m_Drf_readNumber 1 14 [.ref d, .int (nI lo), .int (nI hi)] (hN K N I R L E El Er) 0 0 (some (.int (bI (pNum (gv t ln) lo hi a).isLeft))) (fun h' => ∃ I', h' = hN K N I' R L E El Er ∧ DP (pNum (gv t ln) lo hi a) d I I') := by
  have hno1 : isDig (gv t ln a) = false → pNum (gv t ln) lo hi a = .inr (a, 5) := fun h => by simp [pNum, h]
  have hno2 : isDig (gv t ln a) = true → isDig (gv t ln (a + 1)) = false → pNum (gv t ln) lo hi a = .inr (a + 1, 5) := fun h1 h2 => by simp [pNum, h1, h2]
  refine CallS.of (Nat.le_of_ble_eq_true rfl) ?_
  refine wp_aload_n d_Drf_readNumber_0 rfl 0 rfl ?_
  refine wp_aload_n d_Drf_readNumber_1 rfl 0 rfl ?_
  refine wn_get_Drf d_Drf_readNumber_2 (hJ.kd) 5 (by decide) wF_Drf_74 rfl ?_
  refine wp_toI (z := (nI a)) (ha) ?_
  refine wp_callV (r := 0) d_Drf_readNumber_5 (link_V (as := [.int (nI a)]) (rest := []) (r := (R_Drf, T_Drf, 7)) d_Drf_readNumber_5 cal_Drf_byteAt wM_Drf_59 rfl (hN_o (hJ.kd) (by decide)) rfl) cal_Drf_byteAt (c_Drf_byteAt hJ (by omega)) (Nat.le_of_ble_eq_true rfl) ⟨Nat.le_of_ble_eq_true rfl, Nat.le_of_ble_eq_true rfl⟩ ?_
  refine wp_istore_n (lv' := [(3, .int (gI t ln a)), (0, .ref d), (1, .int (nI lo)), (2, .int (nI hi))]) d_Drf_readNumber_8 rfl (by decide) rfl ?_
  refine wp_aload_n d_Drf_readNumber_9 rfl 1 rfl ?_
  refine wp_aload_n d_Drf_readNumber_10 rfl 1 rfl ?_
  refine wn_get_Drf d_Drf_readNumber_11 (hJ.kd) 5 (by decide) wF_Drf_74 rfl ?_
  refine wp_toI (z := (nI a)) (ha) ?_
  refine wp_iconst (v := nI 1) d_Drf_readNumber_14 (by decide) ?_
  refine wp_iaddN d_Drf_readNumber_15 ?_
  refine wp_callV (r := 0) d_Drf_readNumber_16 (link_V (as := [.int (nI (a + 1))]) (rest := []) (r := (R_Drf, T_Drf, 7)) d_Drf_readNumber_16 cal_Drf_byteAt wM_Drf_59 rfl (hN_o (hJ.kd) (by decide)) rfl) cal_Drf_byteAt (c_Drf_byteAt hJ (by omega)) (Nat.le_of_ble_eq_true rfl) ⟨Nat.le_of_ble_eq_true rfl, Nat.le_of_ble_eq_true rfl⟩ ?_
  refine wp_istore (lv' := [(4, .int (gI t ln (a + 1))), (3, .int (gI t ln a)), (0, .ref d), (1, .int (nI lo)), (2, .int (nI hi))]) d_Drf_readNumber_19 (by decide) rfl ?_
  refine wp_iload_n d_Drf_readNumber_21 rfl 1 rfl ?_
  refine wp_callV (r := 0) d_Drf_readNumber_22 (link_SN (av := [.int (gI t ln a)]) (rest := []) d_Drf_readNumber_22 cal_Net_isDigit wN_Drf_97 wM_Drf_97 rfl) cal_Net_isDigit (c_Net_isDigitG hJ.ht _ _) (Nat.le_of_ble_eq_true rfl) ⟨Nat.le_of_ble_eq_true rfl, Nat.le_of_ble_eq_true rfl⟩ ?_
  refine wp_if_neB (tgt := 38) d_Drf_readNumber_25 (by decide) (fun c25 => ?_) (fun c25 => ?_)
  · refine wp_iload d_Drf_readNumber_38 0 rfl ?_
    refine wp_callV (r := 0) d_Drf_readNumber_40 (link_SN (av := [.int (gI t ln (a + 1))]) (rest := []) d_Drf_readNumber_40 cal_Net_isDigit wN_Drf_97 wM_Drf_97 rfl) cal_Net_isDigit (c_Net_isDigitG hJ.ht _ _) (Nat.le_of_ble_eq_true rfl) ⟨Nat.le_of_ble_eq_true rfl, Nat.le_of_ble_eq_true rfl⟩ ?_
    refine wp_if_neB (tgt := 58) d_Drf_readNumber_43 (by decide) (fun c43 => ?_) (fun c43 => ?_)
    · obtain ⟨n1, hn1, e1, e2⟩ := dig_of hJ.ht c25
      obtain ⟨n2, hn2, e3, e4⟩ := dig_of hJ.ht c43
      have hok : lo ≤ 10 * n1 + n2 ∧ 10 * n1 + n2 ≤ hi → pNum (gv t ln) lo hi a = .inl (a + 2) := fun h => by
        unfold pNum
        rw [c25, c43, e1, e3, if_neg (by decide), if_neg (by decide), if_pos (by omega)]
      have hno3 : ¬ (lo ≤ 10 * n1 + n2 ∧ 10 * n1 + n2 ≤ hi) → pNum (gv t ln) lo hi a = .inr (a, 5) := fun h => by
        unfold pNum
        rw [c25, c43, e1, e3, if_neg (by decide), if_neg (by decide), if_neg (by omega)]
      refine wp_bipush (v := nI 10) d_Drf_readNumber_58 (by decide) ?_
      refine wp_iload_n d_Drf_readNumber_60 rfl 1 rfl ?_
      refine wp_toI (z := (nI (48 + n1))) (e2) ?_
      refine wp_bipush (v := nI 48) d_Drf_readNumber_61 (by decide) ?_
      refine wp_isubN d_Drf_readNumber_63 (by omega) ?_
      refine wp_imulN d_Drf_readNumber_64 ?_
      refine wp_iload d_Drf_readNumber_65 0 rfl ?_
      refine wp_toI (z := (nI (48 + n2))) (e4) ?_
      refine wp_iaddN d_Drf_readNumber_67 ?_
      refine wp_bipush (v := nI 48) d_Drf_readNumber_68 (by decide) ?_
      refine wp_isubN d_Drf_readNumber_70 (by omega) ?_
      refine wp_toI (z := (nI (10 * n1 + n2))) (congrArg nI (by omega)) ?_
      refine wp_istore (lv' := [(5, .int (nI (10 * n1 + n2))), (4, .int (gI t ln (a + 1))), (3, .int (gI t ln a)), (0, .ref d), (1, .int (nI lo)), (2, .int (nI hi))]) d_Drf_readNumber_71 (by decide) rfl ?_
      refine wp_iload d_Drf_readNumber_73 0 rfl ?_
      refine wp_iload_n d_Drf_readNumber_75 rfl 4 rfl ?_
      refine wp_ltN (tgt := 85) d_Drf_readNumber_76 (by decide) (by omega) (by omega) (fun c76 => ?_) (fun c76 => ?_)
      · refine wp_aload_n d_Drf_readNumber_85 rfl 3 rfl ?_
        refine wp_iconst (v := nI 5) d_Drf_readNumber_86 (by decide) ?_
        refine wp_aload_n d_Drf_readNumber_87 rfl 3 rfl ?_
        refine wn_get_Drf d_Drf_readNumber_88 (hJ.kd) 5 (by decide) wF_Drf_74 rfl ?_
        refine wp_toI (z := (nI a)) (ha) ?_
        refine wp_callV (r := 0) d_Drf_readNumber_91 (link_V (as := [.int (nI 5), .int (nI a)]) (rest := []) (r := (R_Drf, T_Drf, 7)) d_Drf_readNumber_91 cal_Drf_tell wM_Drf_70 rfl (hN_o (hJ.kd) (by decide)) rfl) cal_Drf_tell (c_Drf_tell (r := 5) (a := a) hJ.kd) (Nat.le_of_ble_eq_true rfl) ⟨Nat.le_of_ble_eq_true rfl, Nat.le_of_ble_eq_true rfl⟩ ?_
        exact wp_zret (ty := .boolean) d_Drf_readNumber_94 rfl rfl ⟨resI (bI_zero (by rw [hno3 (by omega)]; rfl)), _, rfl, by rw [hno3 (by omega)]; exact DP_no⟩
      · refine wp_iload d_Drf_readNumber_79 0 rfl ?_
        refine wp_iload_n d_Drf_readNumber_81 rfl 5 rfl ?_
        refine wp_leN (tgt := 95) d_Drf_readNumber_82 (by decide) (by omega) (by omega) (fun c82 => ?_) (fun c82 => ?_)
        · refine wp_aload_n d_Drf_readNumber_95 rfl 3 rfl ?_
          refine wp_dup d_Drf_readNumber_96 rfl ?_
          refine wn_get_Drf d_Drf_readNumber_97 (hJ.kd) 5 (by decide) wF_Drf_74 rfl ?_
          refine wp_toI (z := (nI a)) (ha) ?_
          refine wp_iconst (v := nI 2) d_Drf_readNumber_100 (by decide) ?_
          refine wp_iaddN d_Drf_readNumber_101 ?_
          refine wn_put_Drf (ty := t_Drf 5) (I' := u2 I 26 d (nI (a + 2))) (R' := R) (L' := L) d_Drf_readNumber_102 (hJ.kd) 5 (by decide) wF_Drf_74 rfl (t_Drf_ok 5 (by decide)) rfl rfl sF_26 (oI _ _ _ 26 _) ?_
          refine wp_iconst (v := nI 1) d_Drf_readNumber_105 (by decide) ?_
          exact wp_zret (ty := .boolean) d_Drf_readNumber_106 rfl rfl ⟨resI (bI_one (by rw [hok (by omega)]; rfl)), _, rfl, by rw [hok (by omega)]; exact DP_ok⟩
        · refine wp_aload_n d_Drf_readNumber_85 rfl 3 rfl ?_
          refine wp_iconst (v := nI 5) d_Drf_readNumber_86 (by decide) ?_
          refine wp_aload_n d_Drf_readNumber_87 rfl 3 rfl ?_
          refine wn_get_Drf d_Drf_readNumber_88 (hJ.kd) 5 (by decide) wF_Drf_74 rfl ?_
          refine wp_toI (z := (nI a)) (ha) ?_
          refine wp_callV (r := 0) d_Drf_readNumber_91 (link_V (as := [.int (nI 5), .int (nI a)]) (rest := []) (r := (R_Drf, T_Drf, 7)) d_Drf_readNumber_91 cal_Drf_tell wM_Drf_70 rfl (hN_o (hJ.kd) (by decide)) rfl) cal_Drf_tell (c_Drf_tell (r := 5) (a := a) hJ.kd) (Nat.le_of_ble_eq_true rfl) ⟨Nat.le_of_ble_eq_true rfl, Nat.le_of_ble_eq_true rfl⟩ ?_
          exact wp_zret (ty := .boolean) d_Drf_readNumber_94 rfl rfl ⟨resI (bI_zero (by rw [hno3 (by omega)]; rfl)), _, rfl, by rw [hno3 (by omega)]; exact DP_no⟩
    · refine wp_aload_n d_Drf_readNumber_46 rfl 2 rfl ?_
      refine wp_iconst (v := nI 5) d_Drf_readNumber_47 (by decide) ?_
      refine wp_aload_n d_Drf_readNumber_48 rfl 2 rfl ?_
      refine wn_get_Drf d_Drf_readNumber_49 (hJ.kd) 5 (by decide) wF_Drf_74 rfl ?_
      refine wp_toI (z := (nI a)) (ha) ?_
      refine wp_iconst (v := nI 1) d_Drf_readNumber_52 (by decide) ?_
      refine wp_iaddN d_Drf_readNumber_53 ?_
      refine wp_callV (r := 0) d_Drf_readNumber_54 (link_V (as := [.int (nI 5), .int (nI (a + 1))]) (rest := []) (r := (R_Drf, T_Drf, 7)) d_Drf_readNumber_54 cal_Drf_tell wM_Drf_70 rfl (hN_o (hJ.kd) (by decide)) rfl) cal_Drf_tell (c_Drf_tell (r := 5) (a := a + 1) hJ.kd) (Nat.le_of_ble_eq_true rfl) ⟨Nat.le_of_ble_eq_true rfl, Nat.le_of_ble_eq_true rfl⟩ ?_
      exact wp_zret (ty := .boolean) d_Drf_readNumber_57 rfl rfl ⟨resI (bI_zero (by rw [hno2 c25 c43]; rfl)), _, rfl, by rw [hno2 c25 c43]; exact DP_no⟩
  · refine wp_aload_n d_Drf_readNumber_28 rfl 2 rfl ?_
    refine wp_iconst (v := nI 5) d_Drf_readNumber_29 (by decide) ?_
    refine wp_aload_n d_Drf_readNumber_30 rfl 2 rfl ?_
    refine wn_get_Drf d_Drf_readNumber_31 (hJ.kd) 5 (by decide) wF_Drf_74 rfl ?_
    refine wp_toI (z := (nI a)) (ha) ?_
    refine wp_callV (r := 0) d_Drf_readNumber_34 (link_V (as := [.int (nI 5), .int (nI a)]) (rest := []) (r := (R_Drf, T_Drf, 7)) d_Drf_readNumber_34 cal_Drf_tell wM_Drf_70 rfl (hN_o (hJ.kd) (by decide)) rfl) cal_Drf_tell (c_Drf_tell (r := 5) (a := a) hJ.kd) (Nat.le_of_ble_eq_true rfl) ⟨Nat.le_of_ble_eq_true rfl, Nat.le_of_ble_eq_true rfl⟩ ?_
    exact wp_zret (ty := .boolean) d_Drf_readNumber_37 rfl rfl ⟨resI (bI_zero (by rw [hno1 c25]; rfl)), _, rfl, by rw [hno1 c25]; exact DP_no⟩
end Cls6
