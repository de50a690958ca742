section Cls10
def pOrg (g : Nat → Int) (b : Nat) : PR Nat := match pNum g 1 31 b with
  | .inr x => .inr x
  | .inl b1 => match pNum g 0 23 b1 with
    | .inr x => .inr x
    | .inl b2 => match pNum g 0 59 b2 with
      | .inr x => .inr x
      | .inl b3 => match pByte g 32 5 b3 with
        | .inr x => .inr x
        | .inl b4 => match pLet g 5 8 b4 with
          | .inr x => .inr x
          | .inl b5 => pByte g 10 5 b5
theorem judge_eq (g : Nat → Int) : judge g = match pHead g with
  | .inr x => .inr x
  | .inl (p, a) => match pAddrs g 7 a [] with
    | .inr x => .inr x
    | .inl (b, as) => match pOrg g b with
      | .inr x => .inr x
      | .inl b6 => match pBody g 20 b6 with
        | .inr x => .inr x
        | .inl _ => .inl (p, as) := by
  unfold judge pOrg
  cases pHead g with
  | inr x => rfl
  | inl q =>
    obtain ⟨p, a⟩ := q
    dsimp only
    cases pAddrs g 7 a [] with
    | inr x => rfl
    | inl q =>
      obtain ⟨b, as⟩ := q
      dsimp only
      cases pNum g 1 31 b with
      | inr x => rfl
      | inl b1 =>
        dsimp only
        cases pNum g 0 23 b1 with
        | inr x => rfl
        | inl b2 =>
          dsimp only
          cases pNum g 0 59 b2 with
          | inr x => rfl
          | inl b3 =>
            dsimp only
            cases pByte g 32 5 b3 with
            | inr x => rfl
            | inl b4 =>
              dsimp only
              cases pLet g 5 8 b4 with
              | inr x => rfl
              | inl b5 => rfl
theorem pOrg_b {g : Nat → Int} {a b : Nat} (h : pOrg g a = .inl b) : b ≤ a + 16 := by
  unfold pOrg at h
  split at h
  · cases h
  · rename_i h1
    split at h
    · cases h
    · rename_i h2
      split at h
      · cases h
      · rename_i h3
        split at h
        · cases h
        · rename_i h4
          split at h
          · cases h
          · rename_i h5
            have e1 := pNum_b h1
            have e2 := pNum_b h2
            have e3 := pNum_b h3
            have e4 := pByte_b h4
            have e5 := (pLet_inl h5).1
            have e6 := pByte_b h
            omega
theorem pOrg_1 {t : Nat → Nat} {ln a : Nat} {x : Nat × Nat}  (hx : pNum (gv t ln) 1 31 a = .inr x) : pOrg (gv t ln) a = .inr x := by
  unfold pOrg
  simp only [hx]
theorem pOrg_2 {t : Nat → Nat} {ln a : Nat} {b1 : Nat} {x : Nat × Nat} (e1 : pNum (gv t ln) 1 31 a = .inl b1) (hx : pNum (gv t ln) 0 23 b1 = .inr x) : pOrg (gv t ln) a = .inr x := by
  unfold pOrg
  simp only [e1, hx]
theorem pOrg_3 {t : Nat → Nat} {ln a : Nat} {b1 b2 : Nat} {x : Nat × Nat} (e1 : pNum (gv t ln) 1 31 a = .inl b1) (e2 : pNum (gv t ln) 0 23 b1 = .inl b2) (hx : pNum (gv t ln) 0 59 b2 = .inr x) : pOrg (gv t ln) a = .inr x := by
  unfold pOrg
  simp only [e1, e2, hx]
theorem pOrg_4 {t : Nat → Nat} {ln a : Nat} {b1 b2 b3 : Nat} {x : Nat × Nat} (e1 : pNum (gv t ln) 1 31 a = .inl b1) (e2 : pNum (gv t ln) 0 23 b1 = .inl b2) (e3 : pNum (gv t ln) 0 59 b2 = .inl b3) (hx : pByte (gv t ln) 32 5 b3 = .inr x) : pOrg (gv t ln) a = .inr x := by
  unfold pOrg
  simp only [e1, e2, e3, hx]
theorem pOrg_5 {t : Nat → Nat} {ln a : Nat} {b1 b2 b3 b4 : Nat} {x : Nat × Nat} (e1 : pNum (gv t ln) 1 31 a = .inl b1) (e2 : pNum (gv t ln) 0 23 b1 = .inl b2) (e3 : pNum (gv t ln) 0 59 b2 = .inl b3) (e4 : pByte (gv t ln) 32 5 b3 = .inl b4) (hx : pLet (gv t ln) 5 8 b4 = .inr x) : pOrg (gv t ln) a = .inr x := by
  unfold pOrg
  simp only [e1, e2, e3, e4, hx]
theorem pOrg_6 {t : Nat → Nat} {ln a : Nat} {b1 b2 b3 b4 b5 : Nat} {x : Nat × Nat} (e1 : pNum (gv t ln) 1 31 a = .inl b1) (e2 : pNum (gv t ln) 0 23 b1 = .inl b2) (e3 : pNum (gv t ln) 0 59 b2 = .inl b3) (e4 : pByte (gv t ln) 32 5 b3 = .inl b4) (e5 : pLet (gv t ln) 5 8 b4 = .inl b5) (hx : pByte (gv t ln) 10 5 b5 = .inr x) : pOrg (gv t ln) a = .inr x := by
  unfold pOrg
  simp only [e1, e2, e3, e4, e5, hx]
theorem pOrg_ok {t : Nat → Nat} {ln a : Nat} {b1 b2 b3 b4 b5 b6 : Nat} (e1 : pNum (gv t ln) 1 31 a = .inl b1) (e2 : pNum (gv t ln) 0 23 b1 = .inl b2) (e3 : pNum (gv t ln) 0 59 b2 = .inl b3) (e4 : pByte (gv t ln) 32 5 b3 = .inl b4) (e5 : pLet (gv t ln) 5 8 b4 = .inl b5) (e6 : pByte (gv t ln) 10 5 b5 = .inl b6) : pOrg (gv t ln) a = .inl b6 := by
  unfold pOrg
  simp only [e1, e2, e3, e4, e5, e6]
set_option maxRecDepth 20000 in
theorem c_Drf_readOrigin {G : Gt} {K N : Nat → Nat} {I : Nat → Nat → Int32} {R : Nat → Nat → Option Nat} {L : Nat → Nat → Int64} {E : Nat → Nat → Int32} {El : Nat → Nat → Int64} {Er : Nat → Nat → Option Nat} {d b da : Nat} {t : Nat → Nat} {ln : Nat} (hJ : Jd K N I R E d b da t ln) {a : Nat} (ha : I 26 d = nI a) (hab : a < 2 ^ 18) : CallE G m_Drf_readOrigin 2 31 [.ref d] (hN K N I R L E El Er) 0 0 (some (.int (bI (pOrg (gv t ln) a).isLeft))) (fun h' => ∃ I', h' = hN K N I' R L E El Er ∧ DP (pOrg (gv t ln) a) d I I') := by
  refine CallS.of (Nat.le_of_ble_eq_true rfl) ?_
  refine wp_aload_n d_Drf_readOrigin_0 rfl 0 rfl ?_
  refine wp_iconst (v := nI 1) d_Drf_readOrigin_1 (by decide) ?_
  refine wp_bipush (v := nI 31) d_Drf_readOrigin_2 (by decide) ?_
  refine wp_callEV (k' := 0) (n' := 0) (r := 0) d_Drf_readOrigin_4 (link_V (as := [.int (nI 1), .int (nI 31)]) (rest := []) (r := (R_Drf, T_Drf, 7)) d_Drf_readOrigin_4 cal_Drf_readNumber wM_Drf_94 rfl (hN_o (hJ.kd) (by decide)) rfl) cal_Drf_readNumber (c_Drf_readNumber (a := a) hJ ha (by omega) (by omega) (by omega)) (Nat.le_of_ble_eq_true rfl) ⟨Nat.le_of_ble_eq_true rfl, Nat.le_of_ble_eq_true rfl⟩ (fun h' q4 => ?_)
  obtain ⟨F1, rfl, hP1⟩ := q4
  have hfr1 : dF d I F1 := hP1.1
  have hJ1 : Jd K N F1 R E d b da t ln := hJ.I (hfr1 25 d (Or.inr ⟨by decide, by decide⟩))
  refine wp_if_eqB (tgt := 62) d_Drf_readOrigin_7 (by decide) (fun c7 => ?_) (fun c7 => ?_)
  · refine wp_iconst (v := nI 0) d_Drf_readOrigin_62 (by decide) ?_
    exact (inr_of c7).elim (fun x hx => wp_zret (ty := .boolean) d_Drf_readOrigin_63 rfl rfl ⟨resI (bI_zero (by rw [pOrg_1 hx]; rfl)), _, rfl, by rw [pOrg_1 hx]; exact ⟨hfr1, fun b hb => (by cases hb), fun f hf => (by cases hf; exact hP1.2.2 _ hx)⟩⟩)
  · obtain ⟨b1, e1⟩ := inl_of c7
    have hb1 := hP1.2.1 _ e1
    have hbb1 := pNum_b e1
    refine wp_aload_n d_Drf_readOrigin_10 rfl 0 rfl ?_
    refine wp_iconst (v := nI 0) d_Drf_readOrigin_11 (by decide) ?_
    refine wp_bipush (v := nI 23) d_Drf_readOrigin_12 (by decide) ?_
    refine wp_callEV (k' := 0) (n' := 0) (r := 0) d_Drf_readOrigin_14 (link_V (as := [.int (nI 0), .int (nI 23)]) (rest := []) (r := (R_Drf, T_Drf, 7)) d_Drf_readOrigin_14 cal_Drf_readNumber wM_Drf_94 rfl (hN_o (hJ.kd) (by decide)) rfl) cal_Drf_readNumber (c_Drf_readNumber (a := b1) hJ1 hb1 (by omega) (by omega) (by omega)) (Nat.le_of_ble_eq_true rfl) ⟨Nat.le_of_ble_eq_true rfl, Nat.le_of_ble_eq_true rfl⟩ (fun h' q14 => ?_)
    obtain ⟨F2, rfl, hP2⟩ := q14
    have hfr2 : dF d I F2 := hfr1.tr hP2.1
    have hJ2 : Jd K N F2 R E d b da t ln := hJ.I (hfr2 25 d (Or.inr ⟨by decide, by decide⟩))
    refine wp_if_eqB (tgt := 62) d_Drf_readOrigin_17 (by decide) (fun c17 => ?_) (fun c17 => ?_)
    · refine wp_iconst (v := nI 0) d_Drf_readOrigin_62 (by decide) ?_
      exact (inr_of c17).elim (fun x hx => wp_zret (ty := .boolean) d_Drf_readOrigin_63 rfl rfl ⟨resI (bI_zero (by rw [pOrg_2 e1 hx]; rfl)), _, rfl, by rw [pOrg_2 e1 hx]; exact ⟨hfr2, fun b hb => (by cases hb), fun f hf => (by cases hf; exact hP2.2.2 _ hx)⟩⟩)
    · obtain ⟨b2, e2⟩ := inl_of c17
      have hb2 := hP2.2.1 _ e2
      have hbb2 := pNum_b e2
      refine wp_aload_n d_Drf_readOrigin_20 rfl 0 rfl ?_
      refine wp_iconst (v := nI 0) d_Drf_readOrigin_21 (by decide) ?_
      refine wp_bipush (v := nI 59) d_Drf_readOrigin_22 (by decide) ?_
      refine wp_callEV (k' := 0) (n' := 0) (r := 0) d_Drf_readOrigin_24 (link_V (as := [.int (nI 0), .int (nI 59)]) (rest := []) (r := (R_Drf, T_Drf, 7)) d_Drf_readOrigin_24 cal_Drf_readNumber wM_Drf_94 rfl (hN_o (hJ.kd) (by decide)) rfl) cal_Drf_readNumber (c_Drf_readNumber (a := b2) hJ2 hb2 (by omega) (by omega) (by omega)) (Nat.le_of_ble_eq_true rfl) ⟨Nat.le_of_ble_eq_true rfl, Nat.le_of_ble_eq_true rfl⟩ (fun h' q24 => ?_)
      obtain ⟨F3, rfl, hP3⟩ := q24
      have hfr3 : dF d I F3 := hfr2.tr hP3.1
      have hJ3 : Jd K N F3 R E d b da t ln := hJ.I (hfr3 25 d (Or.inr ⟨by decide, by decide⟩))
      refine wp_if_eqB (tgt := 62) d_Drf_readOrigin_27 (by decide) (fun c27 => ?_) (fun c27 => ?_)
      · refine wp_iconst (v := nI 0) d_Drf_readOrigin_62 (by decide) ?_
        exact (inr_of c27).elim (fun x hx => wp_zret (ty := .boolean) d_Drf_readOrigin_63 rfl rfl ⟨resI (bI_zero (by rw [pOrg_3 e1 e2 hx]; rfl)), _, rfl, by rw [pOrg_3 e1 e2 hx]; exact ⟨hfr3, fun b hb => (by cases hb), fun f hf => (by cases hf; exact hP3.2.2 _ hx)⟩⟩)
      · obtain ⟨b3, e3⟩ := inl_of c27
        have hb3 := hP3.2.1 _ e3
        have hbb3 := pNum_b e3
        refine wp_aload_n d_Drf_readOrigin_30 rfl 0 rfl ?_
        refine wp_bipush (v := nI 32) d_Drf_readOrigin_31 (by decide) ?_
        refine wp_iconst (v := nI 5) d_Drf_readOrigin_33 (by decide) ?_
        refine wp_callEV (k' := 0) (n' := 0) (r := 0) d_Drf_readOrigin_34 (link_V (as := [.int (nI 32), .int (nI 5)]) (rest := []) (r := (R_Drf, T_Drf, 7)) d_Drf_readOrigin_34 cal_Drf_readByte wM_Drf_77 rfl (hN_o (hJ.kd) (by decide)) rfl) cal_Drf_readByte (c_Drf_readByte (a := b3) hJ3 hb3 (by omega) (by omega)) (Nat.le_of_ble_eq_true rfl) ⟨Nat.le_of_ble_eq_true rfl, Nat.le_of_ble_eq_true rfl⟩ (fun h' q34 => ?_)
        obtain ⟨F4, rfl, hP4⟩ := q34
        have hfr4 : dF d I F4 := hfr3.tr hP4.1
        have hJ4 : Jd K N F4 R E d b da t ln := hJ.I (hfr4 25 d (Or.inr ⟨by decide, by decide⟩))
        refine wp_if_eqB (tgt := 62) d_Drf_readOrigin_37 (by decide) (fun c37 => ?_) (fun c37 => ?_)
        · refine wp_iconst (v := nI 0) d_Drf_readOrigin_62 (by decide) ?_
          exact (inr_of c37).elim (fun x hx => wp_zret (ty := .boolean) d_Drf_readOrigin_63 rfl rfl ⟨resI (bI_zero (by rw [pOrg_4 e1 e2 e3 hx]; rfl)), _, rfl, by rw [pOrg_4 e1 e2 e3 hx]; exact ⟨hfr4, fun b hb => (by cases hb), fun f hf => (by cases hf; exact hP4.2.2 _ hx)⟩⟩)
        · obtain ⟨b4, e4⟩ := inl_of c37
          have hb4 := hP4.2.1 _ e4
          have hbb4 := pByte_b e4
          refine wp_aload_n d_Drf_readOrigin_40 rfl 0 rfl ?_
          refine wp_iconst (v := nI 5) d_Drf_readOrigin_41 (by decide) ?_
          refine wp_callEV (k' := 0) (n' := 0) (r := 0) d_Drf_readOrigin_42 (link_V (as := [.int (nI 5)]) (rest := []) (r := (R_Drf, T_Drf, 7)) d_Drf_readOrigin_42 cal_Drf_readLetters wM_Drf_80 rfl (hN_o (hJ.kd) (by decide)) rfl) cal_Drf_readLetters (c_Drf_readLetters (a := b4) hJ4 hb4 (by omega)) (Nat.le_of_ble_eq_true rfl) ⟨Nat.le_of_ble_eq_true rfl, Nat.le_of_ble_eq_true rfl⟩ (fun h' q42 => ?_)
          obtain ⟨F5, rfl, hP5⟩ := q42
          have hfr5 : dF d I F5 := hfr4.tr hP5.1
          have hJ5 : Jd K N F5 R E d b da t ln := hJ.I (hfr5 25 d (Or.inr ⟨by decide, by decide⟩))
          refine wp_if_eqB (tgt := 62) d_Drf_readOrigin_45 (by decide) (fun c45 => ?_) (fun c45 => ?_)
          · refine wp_iconst (v := nI 0) d_Drf_readOrigin_62 (by decide) ?_
            exact (inr_of c45).elim (fun x hx => wp_zret (ty := .boolean) d_Drf_readOrigin_63 rfl rfl ⟨resI (bI_zero (by rw [pOrg_5 e1 e2 e3 e4 hx]; rfl)), _, rfl, by rw [pOrg_5 e1 e2 e3 e4 hx]; exact ⟨hfr5, fun b hb => (by cases hb), fun f hf => (by cases hf; exact hP5.2.2 _ hx)⟩⟩)
          · obtain ⟨b5, e5⟩ := inl_of c45
            have hb5 := hP5.2.1 _ e5
            have hbb5 := (pLet_inl e5).1
            refine wp_aload_n d_Drf_readOrigin_48 rfl 0 rfl ?_
            refine wp_bipush (v := nI 10) d_Drf_readOrigin_49 (by decide) ?_
            refine wp_iconst (v := nI 5) d_Drf_readOrigin_51 (by decide) ?_
            refine wp_callEV (k' := 0) (n' := 0) (r := 0) d_Drf_readOrigin_52 (link_V (as := [.int (nI 10), .int (nI 5)]) (rest := []) (r := (R_Drf, T_Drf, 7)) d_Drf_readOrigin_52 cal_Drf_readByte wM_Drf_77 rfl (hN_o (hJ.kd) (by decide)) rfl) cal_Drf_readByte (c_Drf_readByte (a := b5) hJ5 hb5 (by omega) (by omega)) (Nat.le_of_ble_eq_true rfl) ⟨Nat.le_of_ble_eq_true rfl, Nat.le_of_ble_eq_true rfl⟩ (fun h' q52 => ?_)
            obtain ⟨F6, rfl, hP6⟩ := q52
            have hfr6 : dF d I F6 := hfr5.tr hP6.1
            have hJ6 : Jd K N F6 R E d b da t ln := hJ.I (hfr6 25 d (Or.inr ⟨by decide, by decide⟩))
            refine wp_if_eqB (tgt := 62) d_Drf_readOrigin_55 (by decide) (fun c55 => ?_) (fun c55 => ?_)
            · refine wp_iconst (v := nI 0) d_Drf_readOrigin_62 (by decide) ?_
              exact (inr_of c55).elim (fun x hx => wp_zret (ty := .boolean) d_Drf_readOrigin_63 rfl rfl ⟨resI (bI_zero (by rw [pOrg_6 e1 e2 e3 e4 e5 hx]; rfl)), _, rfl, by rw [pOrg_6 e1 e2 e3 e4 e5 hx]; exact ⟨hfr6, fun b hb => (by cases hb), fun f hf => (by cases hf; exact hP6.2.2 _ hx)⟩⟩)
            · obtain ⟨b6, e6⟩ := inl_of c55
              have hb6 := hP6.2.1 _ e6
              have hbb6 := pByte_b e6
              refine wp_iconst (v := nI 1) d_Drf_readOrigin_58 (by decide) ?_
              refine wp_goto (tgt := 63) d_Drf_readOrigin_59 (by decide) ?_
              exact wp_zret (ty := .boolean) d_Drf_readOrigin_63 rfl rfl ⟨resI (bI_one (by rw [pOrg_ok e1 e2 e3 e4 e5 e6]; rfl)), _, rfl, by rw [pOrg_ok e1 e2 e3 e4 e5 e6]; exact ⟨hfr6, fun b hb => (by cases hb; exact hb6), fun f hf => (by cases hf)⟩⟩
def gF (d : Nat) (I I' : Nat → Nat → Int32) : Prop := ∀ g q, (q ≠ d ∨ g < 23 ∨ 27 < g) → I' g q = I g q
theorem gF.tr {d : Nat} {I I1 I2 : Nat → Nat → Int32} (h : gF d I I1) (h2 : gF d I1 I2) : gF d I I2 := fun g q hq => (h2 g q hq).trans (h g q hq)
theorem dF.g {d : Nat} {I I1 : Nat → Nat → Int32} (h : dF d I I1) : gF d I I1 := fun g q hq => h g q (by omega)
theorem vF.g {d : Nat} {I I1 : Nat → Nat → Int32} (h : vF d I I1) : gF d I I1 := fun g q hq => h g q (by omega)
theorem gF_u {d g : Nat} {I : Nat → Nat → Int32} {x : Int32} (hg : 23 ≤ g ∧ g ≤ 27) : gF d I (u2 I g d x) := by
  intro g2 q hq
  by_cases hd : q = d
  · rw [u2_ne _ _ (by omega)]
  · exact u2_q _ _ hd
def JPc (res : PR (Nat × List (List Nat))) (n d da : Nat) (I : Nat → Nat → Int32) (El : Nat → Nat → Int64) (I' : Nat → Nat → Int32) (El' : Nat → Nat → Int64) : Prop := gF d I I' ∧ (∀ q, q ≠ da → El' q = El q) ∧ I' 25 d = nI n ∧
  (∀ p as, res = .inl (p, as) → I' 24 d = nI p ∧ p < 5 ∧ I' 23 d = nI as.length ∧ (∀ k x, as[k]? = some x → El' da k = lN (leN x)) ∧ as.length ≤ 7 ∧ 0 < as.length ∧ ∀ x ∈ as, ad8 x) ∧ ∀ f, res = .inr f → I' 27 d = fltI f
set_option maxRecDepth 20000 in
theorem c_Drf_isGood {G : Gt} {K N : Nat → Nat} {I : Nat → Nat → Int32} {R : Nat → Nat → Option Nat} {L : Nat → Nat → Int64} {E : Nat → Nat → Int32} {El : Nat → Nat → Int64} {Er : Nat → Nat → Option Nat} (hS : jOK G) {d b da n : Nat} {t : Nat → Nat} (hJ : Jd K N (u2 I 25 d (nI n)) R E d b da t n) : CallE G m_Drf_isGood 7 97 [.ref d, .int (nI n)] (hN K N I R L E El Er) 0 0 (some (.int (bI (judge (gv t n)).isLeft))) (fun h' => ∃ I' El', h' = hN K N I' R L E El' Er ∧ JPc (judge (gv t n)) n d da I El I' El') := by
  refine CallS.of (Nat.le_of_ble_eq_true rfl) ?_
  refine wp_aload_n d_Drf_isGood_0 rfl 0 rfl ?_
  refine wp_iload_n d_Drf_isGood_1 rfl 1 rfl ?_
  refine wn_put_Drf (ty := t_Drf 4) (I' := u2 I 25 d (nI n)) (R' := R) (L' := L) d_Drf_isGood_2 (hJ.kd) 4 (by decide) wF_Drf_19 rfl (t_Drf_ok 4 (by decide)) rfl rfl sF_25 (oI _ _ _ 25 _) ?_
  refine wp_aload_n d_Drf_isGood_5 rfl 0 rfl ?_
  refine wp_iconst (v := nI 0) d_Drf_isGood_6 (by decide) ?_
  refine wn_put_Drf (ty := t_Drf 2) (I' := u2 (u2 I 25 d (nI n)) 23 d (nI 0)) (R' := R) (L' := L) d_Drf_isGood_7 (hJ.kd) 2 (by decide) wF_Drf_23 rfl (t_Drf_ok 2 (by decide)) rfl rfl sF_23 (oI _ _ _ 23 _) ?_
  have hf0 : gF d I (u2 (u2 I 25 d (nI n)) 23 d (nI 0)) := (gF_u ⟨by decide, by decide⟩).tr (gF_u ⟨by decide, by decide⟩)
  have hJ0 : Jd K N (u2 (u2 I 25 d (nI n)) 23 d (nI 0)) R E d b da t n := hJ.I (by rw [u2_ne _ _ (by decide)])
  refine wp_aload_n d_Drf_isGood_10 rfl 0 rfl ?_
  refine wp_callEV (k' := 0) (n' := 0) (r := 0) d_Drf_isGood_11 (link_V (as := []) (rest := []) (r := (R_Drf, T_Drf, 7)) d_Drf_isGood_11 cal_Drf_readPriority wM_Drf_26 rfl (hN_o (hJ.kd) (by decide)) rfl) cal_Drf_readPriority (c_Drf_readPriority hS hJ0) (Nat.le_of_ble_eq_true rfl) ⟨Nat.le_of_ble_eq_true rfl, Nat.le_of_ble_eq_true rfl⟩ (fun h' q11 => ?_)
  obtain ⟨F1, rfl, hP1⟩ := q11
  have hf1 : gF d I F1 := hf0.tr (fun g q hq => hP1.1 g q (by omega))
  have h25 : F1 25 d = nI n := (hP1.1 25 d (Or.inr ⟨by decide, by decide, by decide⟩)).trans (by rw [u2_ne _ _ (by decide), u2_at, if_pos rfl])
  have h23 : F1 23 d = nI 0 := (hP1.1 23 d (Or.inr ⟨by decide, by decide, by decide⟩)).trans (by rw [u2_at, if_pos rfl])
  have hJ1 : Jd K N F1 R E d b da t n := hJ0.I (hP1.1 25 d (Or.inr ⟨by decide, by decide, by decide⟩))
  refine wp_if_eqB (tgt := 42) d_Drf_isGood_14 (by decide) (fun c14 => ?_) (fun c14 => ?_)
  · refine wp_iconst (v := nI 0) d_Drf_isGood_42 (by decide) ?_
    exact (inr_of c14).elim (fun x hx => wp_zret (ty := .boolean) d_Drf_isGood_43 rfl rfl ⟨resI (bI_zero (by simp only [judge_eq, hx]; rfl)), _, _, rfl, by simp only [judge_eq, hx]; exact ⟨hf1, fun _ _ => rfl, h25, fun p as9 hb => (by cases hb), fun f hf => (by cases hf; exact hP1.2.2 _ hx)⟩⟩)
  · obtain ⟨⟨p1, b1⟩, e1⟩ := inl_of c14
    have hb1 := (hP1.2.1 _ _ e1).2
    have hbb1 := (pHead_b e1).1
    refine wp_aload_n d_Drf_isGood_17 rfl 0 rfl ?_
    refine wp_callEV (k' := 0) (n' := 0) (r := 0) d_Drf_isGood_18 (link_V (as := []) (rest := []) (r := (R_Drf, T_Drf, 7)) d_Drf_isGood_18 cal_Drf_readAddresses wM_Drf_30 rfl (hN_o (hJ.kd) (by decide)) rfl) cal_Drf_readAddresses (c_Drf_readAddresses (a := b1) hJ1 hb1 (by omega) (by omega) h23) (Nat.le_of_ble_eq_true rfl) ⟨Nat.le_of_ble_eq_true rfl, Nat.le_of_ble_eq_true rfl⟩ (fun h' q18 => ?_)
    obtain ⟨F2, X2, rfl, hP2⟩ := q18
    have hf2 : gF d I F2 := hf1.tr hP2.1.g
    have h25 : F2 25 d = nI n := (hP2.1 25 d (Or.inr ⟨by decide, by decide, by decide⟩)).trans h25
    have h24 : F2 24 d = F1 24 d := hP2.1 24 d (Or.inr ⟨by decide, by decide, by decide⟩)
    have hJ2 : Jd K N F2 R E d b da t n := hJ1.I (hP2.1 25 d (Or.inr ⟨by decide, by decide, by decide⟩))
    refine wp_if_eqB (tgt := 42) d_Drf_isGood_21 (by decide) (fun c21 => ?_) (fun c21 => ?_)
    · refine wp_iconst (v := nI 0) d_Drf_isGood_42 (by decide) ?_
      exact (inr_of c21).elim (fun x hx => wp_zret (ty := .boolean) d_Drf_isGood_43 rfl rfl ⟨resI (bI_zero (by simp only [judge_eq, e1, hx]; rfl)), _, _, rfl, by simp only [judge_eq, e1, hx]; exact ⟨hf2, hP2.2.1, h25, fun p as9 hb => (by cases hb), fun f hf => (by cases hf; exact hP2.2.2.2 _ hx)⟩⟩)
    · obtain ⟨⟨b2, as⟩, e2⟩ := inl_of c21
      have hb2 := (hP2.2.2.1 _ _ e2).1
      have hbb2 := pAddrs_b e2
      refine wp_aload_n d_Drf_isGood_24 rfl 0 rfl ?_
      refine wp_callEV (k' := 0) (n' := 0) (r := 0) d_Drf_isGood_25 (link_V (as := []) (rest := []) (r := (R_Drf, T_Drf, 7)) d_Drf_isGood_25 cal_Drf_readOrigin wM_Drf_33 rfl (hN_o (hJ.kd) (by decide)) rfl) cal_Drf_readOrigin (c_Drf_readOrigin (a := b2) hJ2 hb2 (by omega)) (Nat.le_of_ble_eq_true rfl) ⟨Nat.le_of_ble_eq_true rfl, Nat.le_of_ble_eq_true rfl⟩ (fun h' q25 => ?_)
      obtain ⟨F3, rfl, hP3⟩ := q25
      have hf3 : gF d I F3 := hf2.tr hP3.1.g
      have h25 : F3 25 d = nI n := (hP3.1 25 d (Or.inr ⟨by decide, by decide⟩)).trans h25
      have hJ3 : Jd K N F3 R E d b da t n := hJ2.I (hP3.1 25 d (Or.inr ⟨by decide, by decide⟩))
      refine wp_if_eqB (tgt := 42) d_Drf_isGood_28 (by decide) (fun c28 => ?_) (fun c28 => ?_)
      · refine wp_iconst (v := nI 0) d_Drf_isGood_42 (by decide) ?_
        exact (inr_of c28).elim (fun x hx => wp_zret (ty := .boolean) d_Drf_isGood_43 rfl rfl ⟨resI (bI_zero (by simp only [judge_eq, e1, e2, hx]; rfl)), _, _, rfl, by simp only [judge_eq, e1, e2, hx]; exact ⟨hf3, hP2.2.1, h25, fun p as9 hb => (by cases hb), fun f hf => (by cases hf; exact hP3.2.2 _ hx)⟩⟩)
      · obtain ⟨b3, e3⟩ := inl_of c28
        have hb3 := hP3.2.1 _ e3
        have hbb3 := pOrg_b e3
        refine wp_aload_n d_Drf_isGood_31 rfl 0 rfl ?_
        refine wp_callEV (k' := 0) (n' := 0) (r := 0) d_Drf_isGood_32 (link_V (as := []) (rest := []) (r := (R_Drf, T_Drf, 7)) d_Drf_isGood_32 cal_Drf_readLines wM_Drf_36 rfl (hN_o (hJ.kd) (by decide)) rfl) cal_Drf_readLines (c_Drf_readLines hS (a := b3) hJ3 hb3 (by omega)) (Nat.le_of_ble_eq_true rfl) ⟨Nat.le_of_ble_eq_true rfl, Nat.le_of_ble_eq_true rfl⟩ (fun h' q32 => ?_)
        obtain ⟨F4, rfl, hP4⟩ := q32
        have hf4 : gF d I F4 := hf3.tr hP4.1.g
        have h25 : F4 25 d = nI n := (hP4.1 25 d (Or.inr ⟨by decide, by decide⟩)).trans h25
        have hJ4 : Jd K N F4 R E d b da t n := hJ3.I (hP4.1 25 d (Or.inr ⟨by decide, by decide⟩))
        refine wp_if_eqB (tgt := 42) d_Drf_isGood_35 (by decide) (fun c35 => ?_) (fun c35 => ?_)
        · refine wp_iconst (v := nI 0) d_Drf_isGood_42 (by decide) ?_
          exact (inr_of c35).elim (fun x hx => wp_zret (ty := .boolean) d_Drf_isGood_43 rfl rfl ⟨resI (bI_zero (by simp only [judge_eq, e1, e2, e3, hx]; rfl)), _, _, rfl, by simp only [judge_eq, e1, e2, e3, hx]; exact ⟨hf4, hP2.2.1, h25, fun p as9 hb => (by cases hb), fun f hf => (by cases hf; exact hP4.2 _ hx)⟩⟩)
        · obtain ⟨b4, e4⟩ := inl_of c35
          refine wp_iconst (v := nI 1) d_Drf_isGood_38 (by decide) ?_
          refine wp_goto (tgt := 43) d_Drf_isGood_39 (by decide) ?_
          exact wp_zret (ty := .boolean) d_Drf_isGood_43 rfl rfl ⟨resI (bI_one (by simp only [judge_eq, e1, e2, e3, e4]; rfl)), _, _, rfl, by simp only [judge_eq, e1, e2, e3, e4]; exact ⟨hf4, hP2.2.1, h25, fun p as9 hb => (by cases hb; exact ⟨by rw [hP4.1 24 d (Or.inr ⟨by decide, by decide⟩), hP3.1 24 d (Or.inr ⟨by decide, by decide⟩), h24]; exact (hP1.2.1 _ _ e1).1, (pHead_b e1).2, by rw [hP4.1 23 d (Or.inr ⟨by decide, by decide⟩), hP3.1 23 d (Or.inr ⟨by decide, by decide⟩)]; exact (hP2.2.2.1 _ _ e2).2.1, (hP2.2.2.1 _ _ e2).2.2⟩), fun f hf => (by cases hf)⟩⟩
theorem toI8_eq {x z : Int32} (h : x.toBitVec.toNat % 256 = z.toBitVec.toNat % 256) : x.toInt8 = z.toInt8 := by
  apply Int8.toBitVec_inj.1
  show x.toBitVec.signExtend 8 = z.toBitVec.signExtend 8
  rw [BitVec.signExtend_eq_setWidth_of_le _ (by decide), BitVec.signExtend_eq_setWidth_of_le _ (by decide)]
  apply BitVec.eq_of_toNat_eq
  rw [BitVec.toNat_setWidth, BitVec.toNat_setWidth]
  exact h
theorem ush_c : ∀ c, c < 32 → ((nI c).toUInt32 &&& Int32.toUInt32 31).toNat % 32 = c := by decide +kernel
theorem i2b_v (v : Int32) {c : Nat} (hc : c < 32) : ((v.toUInt32 >>> ((nI c).toUInt32 &&& Int32.toUInt32 31)).toInt32).toInt8.toInt32 = b8 (v.toBitVec.toNat / 2 ^ c % 256) := by
  unfold b8
  rw [toI8_eq]
  have e1 : (v.toUInt32 >>> ((nI c).toUInt32 &&& Int32.toUInt32 31)).toInt32.toBitVec.toNat = v.toBitVec.toNat / 2 ^ c := by
    show (v.toUInt32 >>> ((nI c).toUInt32 &&& Int32.toUInt32 31)).toNat = _
    rw [UInt32.toNat_shiftRight, ush_c c hc, Nat.shiftRight_eq_div_pow]
    rfl
  rw [e1]
  show _ = (BitVec.ofNat 32 _).toNat % 256
  rw [BitVec.toNat_ofNat]
  omega
theorem nar_b8 : ∀ c, c < 256 → vp_nar .byte (b8 c) = b8 c := by decide +kernel
/-- the bytes with the first n bytes of v from i on -/
def wrE (E : Nat → Nat → Int32) (b i : Nat) (v : Int32) (n : Nat) : Nat → Nat → Int32 := fun q p => if q = b ∧ i ≤ p ∧ p < i + n ∧ p < 1600 then b8 (v.toBitVec.toNat / 2 ^ (8 * (p - i)) % 256) else E q p
theorem wrE_0 (E : Nat → Nat → Int32) (b i : Nat) (v : Int32) : wrE E b i v 0 = E := by
  funext q p
  unfold wrE
  rw [if_neg (by omega)]
theorem wrE_s (E : Nat → Nat → Int32) {b i k : Nat} (v : Int32) (h : i + k < 1600) : u2 (wrE E b i v k) b (i + k) (b8 (v.toBitVec.toNat / 2 ^ (8 * k) % 256)) = wrE E b i v (k + 1) := by
  funext q p
  by_cases hq : q = b
  · subst hq
    rw [u2_at]
    unfold wrE
    by_cases hp : p = i + k
    · subst hp
      rw [if_pos rfl, if_pos ⟨rfl, by omega, by omega, h⟩, show i + k - i = k by omega]
    · rw [if_neg hp]
      by_cases h2 : q = q ∧ i ≤ p ∧ p < i + k ∧ p < 1600
      · rw [if_pos h2, if_pos ⟨rfl, h2.2.1, by omega, h2.2.2.2⟩]
      · rw [if_neg h2, if_neg (fun z => h2 ⟨rfl, z.2.1, by omega, z.2.2.2⟩)]
  · rw [u2_ne _ _ hq]
    unfold wrE
    rw [if_neg (fun z => hq z.1), if_neg (fun z => hq z.1)]
theorem wrE_o (E : Nat → Nat → Int32) {b i k : Nat} (v : Int32) (h : 1600 ≤ i + k) : wrE E b i v k = wrE E b i v (k + 1) := by
  funext q p
  unfold wrE
  by_cases h2 : q = b ∧ i ≤ p ∧ p < i + k ∧ p < 1600
  · rw [if_pos h2, if_pos ⟨h2.1, h2.2.1, by omega, h2.2.2.2⟩]
  · rw [if_neg h2, if_neg (fun z => h2 ⟨z.1, z.2.1, by omega, z.2.2.2⟩)]
set_option maxRecDepth 20000 in
theorem c_Drf_write {G : Gt} {K N : Nat → Nat} {I : Nat → Nat → Int32} {R : Nat → Nat → Option Nat} {L : Nat → Nat → Int64} {E : Nat → Nat → Int32} {El : Nat → Nat → Int64} {Er : Nat → Nat → Option Nat} {d b i : Nat} {v : Int32} (hd : K d = 4 + 1) (hb : K b = 20 + 2) (hr : R 21 d = some b) (hn : N b = 1600) (hi : i < 1600) : CallR G m_Drf_write 0 0 [.ref d, .int (nI i), .int v] (hN K N I R L E El Er) 0 0 none (hN K N I R L (wrE E b i v 4) El Er) := by
  refine CallS.of (Nat.le_of_ble_eq_true rfl) ?_
  have L2 : ∀ (f k : Nat) (X : Nat → Nat → Int32), 4 - k < f → k ≤ 4 → X = wrE E b i v k → WP G m_Drf_write (0, 0, 0, 0, (hN K N I R L E El Er), fun r9 h9 => r9 = .inl none ∧ h9 = (hN K N I R L (wrE E b i v 4) El Er)) 2 [(3, .int (nI k)), (0, .ref d), (1, .int (nI i)), (2, .int v)] [] (hN K N I R L X El Er) 0 0 := by
    intro f
    induction f with
    | zero =>
      intro k X h1
      omega
    | succ f ih =>
      intro k X hf hk hX
      refine wp_iload_n d_Drf_write_2 rfl 0 rfl ?_
      refine wp_iconst (v := nI 4) d_Drf_write_3 (by decide) ?_
      refine wp_geN (tgt := 45) d_Drf_write_4 (by decide) (by omega) (by omega) (fun c4 => ?_) (fun c4 => ?_)
      · exact wp_vret d_Drf_write_45 rfl ⟨rfl, by rw [hX, show k = 4 by omega]⟩
      · refine wp_iload_n d_Drf_write_7 rfl 2 rfl ?_
        refine wp_iload_n d_Drf_write_8 rfl 0 rfl ?_
        refine wp_iaddN d_Drf_write_9 ?_
        refine wp_istore (lv' := [(4, .int (nI (i + k))), (3, .int (nI k)), (0, .ref d), (1, .int (nI i)), (2, .int v)]) d_Drf_write_10 (by decide) rfl ?_
        refine wp_iload d_Drf_write_12 0 rfl ?_
        refine wp_if_ltN (tgt := 39) d_Drf_write_14 (by decide) (by omega) ?_
        refine wp_iload d_Drf_write_17 0 rfl ?_
        refine wp_sipush (v := nI 1600) d_Drf_write_19 (by decide) ?_
        refine wp_geN (tgt := 39) d_Drf_write_22 (by decide) (by omega) (by omega) (fun c22 => ?_) (fun c22 => ?_)
        · refine wp_iinc (lv' := [(3, .int (nI (k + 1))), (4, .int (nI (i + k))), (0, .ref d), (1, .int (nI i)), (2, .int v)]) d_Drf_write_39 1 rfl (nI_1 _) (by decide) rfl ?_
          refine wp_goto (tgt := 2) d_Drf_write_42 (by decide) ?_
          refine wp_lv [0, 2, 3, 4] rfl ?_
          exact ih (k + 1) _ (by omega) (by omega) (by rw [hX, wrE_o E v (by omega)])
        · refine wp_aload_n d_Drf_write_25 rfl 2 rfl ?_
          refine wn_get_Drf d_Drf_write_26 (hd) 0 (by decide) wF_Drf_9 rfl ?_
          refine wp_toVR (o := some b) (z := .ref b) (hr) rfl ?_
          refine wp_iload d_Drf_write_29 0 rfl ?_
          refine wp_iload_n d_Drf_write_31 rfl 4 rfl ?_
          refine wp_bipush (v := nI 8) d_Drf_write_32 (by decide) ?_
          refine wp_iload_n d_Drf_write_34 rfl 1 rfl ?_
          refine wp_imulN d_Drf_write_35 ?_
          refine wp_iushr d_Drf_write_36 rfl ?_
          refine wp_i2b d_Drf_write_37 (i2b_v v (by omega)) ?_
          refine wn_bst (z := b8 (v.toBitVec.toNat / 2 ^ (8 * k) % 256)) d_Drf_write_38 (hb) (by rw [hn]; omega) (by rw [hn]; omega) (nar_b8 _ (Nat.mod_lt _ (by decide))) ?_
          refine wp_iinc (lv' := [(3, .int (nI (k + 1))), (4, .int (nI (i + k))), (0, .ref d), (1, .int (nI i)), (2, .int v)]) d_Drf_write_39 1 rfl (nI_1 _) (by decide) rfl ?_
          refine wp_goto (tgt := 2) d_Drf_write_42 (by decide) ?_
          refine wp_lv [0, 2, 3, 4] rfl ?_
          exact ih (k + 1) _ (by omega) (by omega) (by rw [hX, wrE_s E v (by omega)])
  refine wp_iconst (v := nI 0) d_Drf_write_0 (by decide) ?_
  refine wp_istore_n (lv' := [(3, .int (nI 0)), (0, .ref d), (1, .int (nI i)), (2, .int v)]) d_Drf_write_1 rfl (by decide) rfl ?_
  exact L2 5 0 E (by omega) (by omega) (wrE_0 E b i v).symm
end Cls10
