section Cls8
theorem isCl_iff {g : Nat → Int} {a : Nat} : isCl g a = true ↔ isNNNN g a = true ∧ (g (a + 4) = -1 ∨ g (a + 4) = 10) := by
  unfold isCl
  simp
theorem pBody_1 {g : Nat → Int} {f a : Nat} (h : isCl g a = true) (h2 : g (a + 4) = -1) : pBody g f a = .inl () := by
  have h1 := (isCl_iff.mp h).1
  unfold pBody
  rw [if_pos ⟨h1, h2⟩]
theorem pBody_2 {g : Nat → Int} {f a : Nat} (h : isCl g a = true) (h2 : ¬ g (a + 4) = -1) : pBody g f a = .inr (a + 4, 8) := by
  have h1 := isCl_iff.mp h
  unfold pBody
  rw [if_neg (fun q => h2 q.2), if_pos ⟨h1.1, h1.2.resolve_left h2⟩]
theorem pBody_3 {g : Nat → Int} {a : Nat} (h : isCl g a = false) : pBody g 0 a = .inr (a, 7) := by
  have h1 : ¬ (isNNNN g a = true ∧ (g (a + 4) = -1 ∨ g (a + 4) = 10)) := fun q => by rw [isCl_iff.mpr q] at h; cases h
  unfold pBody
  rw [if_neg (fun q => h1 ⟨q.1, Or.inl q.2⟩), if_neg (fun q => h1 ⟨q.1, Or.inr q.2⟩)]
theorem pBody_4 {g : Nat → Int} {f a : Nat} (h : isCl g a = false) {b : Nat} (hb : pLine g a = .inl b) : pBody g (f + 1) a = pBody g f b := by
  have h1 : ¬ (isNNNN g a = true ∧ (g (a + 4) = -1 ∨ g (a + 4) = 10)) := fun q => by rw [isCl_iff.mpr q] at h; cases h
  conv => lhs; unfold pBody
  rw [if_neg (fun q => h1 ⟨q.1, Or.inl q.2⟩), if_neg (fun q => h1 ⟨q.1, Or.inr q.2⟩)]
  unfold pLine pByte at hb
  split at hb
  · cases hb
  · rename_i h3
    split at hb
    · rename_i h4
      cases hb
      show (if _ then _ else _) = _
      rw [if_neg (fun q => q.elim (fun q => q h4) h3)]
    · cases hb
theorem pBody_5 {g : Nat → Int} {f a : Nat} (h : isCl g a = false) {x : Nat × Nat} (hb : pLine g a = .inr x) : pBody g (f + 1) a = .inr x := by
  have h1 : ¬ (isNNNN g a = true ∧ (g (a + 4) = -1 ∨ g (a + 4) = 10)) := fun q => by rw [isCl_iff.mpr q] at h; cases h
  conv => lhs; unfold pBody
  rw [if_neg (fun q => h1 ⟨q.1, Or.inl q.2⟩), if_neg (fun q => h1 ⟨q.1, Or.inr q.2⟩)]
  show (if _ then _ else _) = _
  unfold pLine pByte at hb
  split at hb
  · rename_i h3
    cases hb
    rw [if_pos (Or.inr h3), h3]
  · rename_i h3
    split at hb
    · cases hb
    · rename_i h4
      cases hb
      rw [if_pos (Or.inl h4)]
theorem pSigns_le (g : Nat → Int) : ∀ (n a : Nat), pSigns g n a ≤ a + n
  | 0, a => Nat.le_refl _
  | n + 1, a => by
    rw [pSigns]
    split
    · have := pSigns_le g n (a + 1)
      omega
    · omega
theorem pLine_b {g : Nat → Int} {a b : Nat} (h : pLine g a = .inl b) : b ≤ a + 70 := by
  have h1 := pSigns_le g 69 a
  unfold pLine pByte at h
  split at h
  · cases h
  · split at h
    · cases h
      omega
    · cases h
def DPu {α : Type} (res : PR α) (d : Nat) (I I' : Nat → Nat → Int32) : Prop := dF d I I' ∧ ∀ f, res = .inr f → I' 27 d = fltI f
theorem DPu_no {α : Type} {d a r : Nat} {I F : Nat → Nat → Int32} (h : dF d I F) : DPu (α := α) (.inr (a, r)) d I (u2 F 27 d (fltI (a, r))) := ⟨h.tr (dF_u (Or.inr rfl)), fun f hf => by cases hf; rw [u2_at, if_pos rfl]⟩
set_option maxRecDepth 20000 in
theorem c_Drf_readLines {G : Gt} {K N : Nat → Nat} {I : Nat → Nat → Int32} {R : Nat → Nat → Option Nat} {L : Nat → Nat → Int64} {E : Nat → Nat → Int32} {El : Nat → Nat → Int64} {Er : Nat → Nat → Option Nat} (hS : jOK G) {d b da : Nat} {t : Nat → Nat} {ln : Nat} (hJ : Jd K N I R E d b da t ln) {a : Nat} (ha : I 26 d = nI a) (hab : a < 2 ^ 18) : CallE G m_Drf_readLines 6 84 [.ref d] (hN K N I R L E El Er) 0 0 (some (.int (bI (pBody (gv t ln) 20 a).isLeft))) (fun h' => ∃ I', h' = hN K N I' R L E El Er ∧ DPu (pBody (gv t ln) 20 a) d I I') := by
  refine CallS.of (Nat.le_of_ble_eq_true rfl) ?_
  have L2 : ∀ (f n a' : Nat) (F : Nat → Nat → Int32), 20 - n < f → n ≤ 20 → a' ≤ a + 70 * n → F 26 d = nI a' → dF d I F → pBody (gv t ln) 20 a = pBody (gv t ln) (20 - n) a' → WP G m_Drf_readLines (6, 84, 0, 0, (hN K N I R L E El Er), fun r9 h9 => r9 = .inl (some (.int (bI (pBody (gv t ln) 20 a).isLeft))) ∧ (fun h' => ∃ I', h' = hN K N I' R L E El Er ∧ DPu (pBody (gv t ln) 20 a) d I I') h9) 2 [(1, .int (nI n)), (0, .ref d)] [] (hN K N F R L E El Er) 0 0 := by
    intro f
    induction f with
    | zero =>
      intro n a' F h1
      omega
    | succ f ih =>
      intro n a' F hf hn haa hF hfr hp
      have hJ : Jd K N F R E d b da t ln := hJ.I (hfr 25 d (Or.inr ⟨by decide, by decide⟩))
      refine wp_iload_n d_Drf_readLines_2 rfl 0 rfl ?_
      refine wp_bipush (v := nI 20) d_Drf_readLines_3 (by decide) ?_
      refine wp_geN (tgt := 30) d_Drf_readLines_5 (by decide) (by omega) (by omega) (fun c5 => ?_) (fun c5 => ?_)
      · refine wp_aload_n d_Drf_readLines_30 rfl 1 rfl ?_
        refine wp_callV (r := 0) d_Drf_readLines_31 (link_V (as := []) (rest := []) (r := (R_Drf, T_Drf, 7)) d_Drf_readLines_31 cal_Drf_isClosing wM_Drf_103 rfl (hN_o (hJ.kd) (by decide)) rfl) cal_Drf_isClosing (c_Drf_isClosing hS hJ hF (by omega)) (Nat.le_of_ble_eq_true rfl) ⟨Nat.le_of_ble_eq_true rfl, Nat.le_of_ble_eq_true rfl⟩ ?_
        refine wp_if_neB (tgt := 48) d_Drf_readLines_34 (by decide) (fun c34 => ?_) (fun c34 => ?_)
        · refine wp_aload_n d_Drf_readLines_48 rfl 1 rfl ?_
          refine wn_get_Drf d_Drf_readLines_49 (hJ.kd) 5 (by decide) wF_Drf_74 rfl ?_
          refine wp_toI (z := (nI (a'))) (hF) ?_
          refine wp_ldcS d_Drf_readLines_52 wS_Drf_109 (fun sa hsR hsS => ?_)
          rw [str_NNNN] at hsS
          obtain ⟨hO, hC, v, hV, hT⟩ := hsS
          have hbs : ([78, 78, 78, 78] : List Nat).length < 100 := by decide
          refine wp_callSt (k' := 0) (n' := 0) (r := 1) (as := []) (rest := [.int (nI (a'))]) d_Drf_readLines_54 cal_String_length wM_Drf_111 rfl hO (c_String_length hS hO hC hV hT hbs) (Nat.le_of_ble_eq_true rfl) ⟨Nat.le_of_ble_eq_true rfl, Nat.le_of_ble_eq_true rfl⟩ ?_
          refine wp_iaddN d_Drf_readLines_57 ?_
          refine wp_istore_n (lv' := [(1, .int (nI (a' + 4))), (0, .ref d)]) d_Drf_readLines_58 rfl (by decide) rfl ?_
          refine wp_aload_n d_Drf_readLines_59 rfl 1 rfl ?_
          refine wp_iload_n d_Drf_readLines_60 rfl 0 rfl ?_
          refine wp_callV (r := 0) d_Drf_readLines_61 (link_V (as := [.int (nI (a' + 4))]) (rest := []) (r := (R_Drf, T_Drf, 7)) d_Drf_readLines_61 cal_Drf_byteAt wM_Drf_59 rfl (hN_o (hJ.kd) (by decide)) rfl) cal_Drf_byteAt (c_Drf_byteAt hJ (by omega)) (Nat.le_of_ble_eq_true rfl) ⟨Nat.le_of_ble_eq_true rfl, Nat.le_of_ble_eq_true rfl⟩ ?_
          refine wp_iconst (v := -1) d_Drf_readLines_64 (by decide) ?_
          refine wp_icmp_eq (tgt := 78) d_Drf_readLines_65 (by decide) (fun c65 => ?_) (fun c65 => ?_)
          · refine wp_iconst (v := nI 1) d_Drf_readLines_78 (by decide) ?_
            refine wp_goto (tgt := 83) d_Drf_readLines_79 (by decide) ?_
            exact wp_zret (ty := .boolean) d_Drf_readLines_83 rfl rfl ⟨resI (bI_one (by rw [hp, pBody_1 c34 ((gI_m1 hJ.ht _ _).mp c65)]; rfl)), _, rfl, by rw [hp, pBody_1 c34 ((gI_m1 hJ.ht _ _).mp c65)]; exact ⟨hfr, fun f hf => (by cases hf)⟩⟩
          · refine wp_aload_n d_Drf_readLines_68 rfl 1 rfl ?_
            refine wp_bipush (v := nI 8) d_Drf_readLines_69 (by decide) ?_
            refine wp_iload_n d_Drf_readLines_71 rfl 0 rfl ?_
            refine wp_callV (r := 0) d_Drf_readLines_72 (link_V (as := [.int (nI 8), .int (nI (a' + 4))]) (rest := []) (r := (R_Drf, T_Drf, 7)) d_Drf_readLines_72 cal_Drf_tell wM_Drf_70 rfl (hN_o (hJ.kd) (by decide)) rfl) cal_Drf_tell (c_Drf_tell (r := 8) (a := a' + 4) hJ.kd) (Nat.le_of_ble_eq_true rfl) ⟨Nat.le_of_ble_eq_true rfl, Nat.le_of_ble_eq_true rfl⟩ ?_
            refine wp_if_eqN (tgt := 82) d_Drf_readLines_75 (by decide) (by omega) (fun _ => ?_) (fun c => absurd c (by decide))
            refine wp_iconst (v := nI 0) d_Drf_readLines_82 (by decide) ?_
            exact wp_zret (ty := .boolean) d_Drf_readLines_83 rfl rfl ⟨resI (bI_zero (by rw [hp, pBody_2 c34 (fun q => c65 ((gI_m1 hJ.ht _ _).mpr q))]; rfl)), _, rfl, by rw [hp, pBody_2 c34 (fun q => c65 ((gI_m1 hJ.ht _ _).mpr q))]; exact DPu_no hfr⟩
        · refine wp_aload_n d_Drf_readLines_37 rfl 1 rfl ?_
          refine wp_bipush (v := nI 7) d_Drf_readLines_38 (by decide) ?_
          refine wp_aload_n d_Drf_readLines_40 rfl 1 rfl ?_
          refine wn_get_Drf d_Drf_readLines_41 (hJ.kd) 5 (by decide) wF_Drf_74 rfl ?_
          refine wp_toI (z := (nI (a'))) (hF) ?_
          refine wp_callV (r := 0) d_Drf_readLines_44 (link_V (as := [.int (nI 7), .int (nI (a'))]) (rest := []) (r := (R_Drf, T_Drf, 7)) d_Drf_readLines_44 cal_Drf_tell wM_Drf_70 rfl (hN_o (hJ.kd) (by decide)) rfl) cal_Drf_tell (c_Drf_tell (r := 7) (a := a') hJ.kd) (Nat.le_of_ble_eq_true rfl) ⟨Nat.le_of_ble_eq_true rfl, Nat.le_of_ble_eq_true rfl⟩ ?_
          first | (exact absurd c12 (by rw [c34]; decide)) | (exact wp_zret (ty := .boolean) d_Drf_readLines_47 rfl rfl ⟨resI (bI_zero (by rw [hp, show 20 - n = 0 by omega, pBody_3 c34]; rfl)), _, rfl, by rw [hp, show 20 - n = 0 by omega, pBody_3 c34]; exact DPu_no hfr⟩)
      · refine wp_aload_n d_Drf_readLines_8 rfl 1 rfl ?_
        refine wp_callV (r := 0) d_Drf_readLines_9 (link_V (as := []) (rest := []) (r := (R_Drf, T_Drf, 7)) d_Drf_readLines_9 cal_Drf_isClosing wM_Drf_103 rfl (hN_o (hJ.kd) (by decide)) rfl) cal_Drf_isClosing (c_Drf_isClosing hS hJ hF (by omega)) (Nat.le_of_ble_eq_true rfl) ⟨Nat.le_of_ble_eq_true rfl, Nat.le_of_ble_eq_true rfl⟩ ?_
        refine wp_if_neB (tgt := 30) d_Drf_readLines_12 (by decide) (fun c12 => ?_) (fun c12 => ?_)
        · refine wp_aload_n d_Drf_readLines_30 rfl 1 rfl ?_
          refine wp_callV (r := 0) d_Drf_readLines_31 (link_V (as := []) (rest := []) (r := (R_Drf, T_Drf, 7)) d_Drf_readLines_31 cal_Drf_isClosing wM_Drf_103 rfl (hN_o (hJ.kd) (by decide)) rfl) cal_Drf_isClosing (c_Drf_isClosing hS hJ hF (by omega)) (Nat.le_of_ble_eq_true rfl) ⟨Nat.le_of_ble_eq_true rfl, Nat.le_of_ble_eq_true rfl⟩ ?_
          refine wp_if_neB (tgt := 48) d_Drf_readLines_34 (by decide) (fun c34 => ?_) (fun c34 => ?_)
          · refine wp_aload_n d_Drf_readLines_48 rfl 1 rfl ?_
            refine wn_get_Drf d_Drf_readLines_49 (hJ.kd) 5 (by decide) wF_Drf_74 rfl ?_
            refine wp_toI (z := (nI (a'))) (hF) ?_
            refine wp_ldcS d_Drf_readLines_52 wS_Drf_109 (fun sa hsR hsS => ?_)
            rw [str_NNNN] at hsS
            obtain ⟨hO, hC, v, hV, hT⟩ := hsS
            have hbs : ([78, 78, 78, 78] : List Nat).length < 100 := by decide
            refine wp_callSt (k' := 0) (n' := 0) (r := 1) (as := []) (rest := [.int (nI (a'))]) d_Drf_readLines_54 cal_String_length wM_Drf_111 rfl hO (c_String_length hS hO hC hV hT hbs) (Nat.le_of_ble_eq_true rfl) ⟨Nat.le_of_ble_eq_true rfl, Nat.le_of_ble_eq_true rfl⟩ ?_
            refine wp_iaddN d_Drf_readLines_57 ?_
            refine wp_istore_n (lv' := [(1, .int (nI (a' + 4))), (0, .ref d)]) d_Drf_readLines_58 rfl (by decide) rfl ?_
            refine wp_aload_n d_Drf_readLines_59 rfl 1 rfl ?_
            refine wp_iload_n d_Drf_readLines_60 rfl 0 rfl ?_
            refine wp_callV (r := 0) d_Drf_readLines_61 (link_V (as := [.int (nI (a' + 4))]) (rest := []) (r := (R_Drf, T_Drf, 7)) d_Drf_readLines_61 cal_Drf_byteAt wM_Drf_59 rfl (hN_o (hJ.kd) (by decide)) rfl) cal_Drf_byteAt (c_Drf_byteAt hJ (by omega)) (Nat.le_of_ble_eq_true rfl) ⟨Nat.le_of_ble_eq_true rfl, Nat.le_of_ble_eq_true rfl⟩ ?_
            refine wp_iconst (v := -1) d_Drf_readLines_64 (by decide) ?_
            refine wp_icmp_eq (tgt := 78) d_Drf_readLines_65 (by decide) (fun c65 => ?_) (fun c65 => ?_)
            · refine wp_iconst (v := nI 1) d_Drf_readLines_78 (by decide) ?_
              refine wp_goto (tgt := 83) d_Drf_readLines_79 (by decide) ?_
              exact wp_zret (ty := .boolean) d_Drf_readLines_83 rfl rfl ⟨resI (bI_one (by rw [hp, pBody_1 c34 ((gI_m1 hJ.ht _ _).mp c65)]; rfl)), _, rfl, by rw [hp, pBody_1 c34 ((gI_m1 hJ.ht _ _).mp c65)]; exact ⟨hfr, fun f hf => (by cases hf)⟩⟩
            · refine wp_aload_n d_Drf_readLines_68 rfl 1 rfl ?_
              refine wp_bipush (v := nI 8) d_Drf_readLines_69 (by decide) ?_
              refine wp_iload_n d_Drf_readLines_71 rfl 0 rfl ?_
              refine wp_callV (r := 0) d_Drf_readLines_72 (link_V (as := [.int (nI 8), .int (nI (a' + 4))]) (rest := []) (r := (R_Drf, T_Drf, 7)) d_Drf_readLines_72 cal_Drf_tell wM_Drf_70 rfl (hN_o (hJ.kd) (by decide)) rfl) cal_Drf_tell (c_Drf_tell (r := 8) (a := a' + 4) hJ.kd) (Nat.le_of_ble_eq_true rfl) ⟨Nat.le_of_ble_eq_true rfl, Nat.le_of_ble_eq_true rfl⟩ ?_
              refine wp_if_eqN (tgt := 82) d_Drf_readLines_75 (by decide) (by omega) (fun _ => ?_) (fun c => absurd c (by decide))
              refine wp_iconst (v := nI 0) d_Drf_readLines_82 (by decide) ?_
              exact wp_zret (ty := .boolean) d_Drf_readLines_83 rfl rfl ⟨resI (bI_zero (by rw [hp, pBody_2 c34 (fun q => c65 ((gI_m1 hJ.ht _ _).mpr q))]; rfl)), _, rfl, by rw [hp, pBody_2 c34 (fun q => c65 ((gI_m1 hJ.ht _ _).mpr q))]; exact DPu_no hfr⟩
          · refine wp_aload_n d_Drf_readLines_37 rfl 1 rfl ?_
            refine wp_bipush (v := nI 7) d_Drf_readLines_38 (by decide) ?_
            refine wp_aload_n d_Drf_readLines_40 rfl 1 rfl ?_
            refine wn_get_Drf d_Drf_readLines_41 (hJ.kd) 5 (by decide) wF_Drf_74 rfl ?_
            refine wp_toI (z := (nI (a'))) (hF) ?_
            refine wp_callV (r := 0) d_Drf_readLines_44 (link_V (as := [.int (nI 7), .int (nI (a'))]) (rest := []) (r := (R_Drf, T_Drf, 7)) d_Drf_readLines_44 cal_Drf_tell wM_Drf_70 rfl (hN_o (hJ.kd) (by decide)) rfl) cal_Drf_tell (c_Drf_tell (r := 7) (a := a') hJ.kd) (Nat.le_of_ble_eq_true rfl) ⟨Nat.le_of_ble_eq_true rfl, Nat.le_of_ble_eq_true rfl⟩ ?_
            first | (exact absurd c12 (by rw [c34]; decide)) | (exact wp_zret (ty := .boolean) d_Drf_readLines_47 rfl rfl ⟨resI (bI_zero (by rw [hp, show 20 - n = 0 by omega, pBody_3 c34]; rfl)), _, rfl, by rw [hp, show 20 - n = 0 by omega, pBody_3 c34]; exact DPu_no hfr⟩)
        · refine wp_aload_n d_Drf_readLines_15 rfl 1 rfl ?_
          refine wp_callEV (k' := 0) (n' := 0) (r := 0) d_Drf_readLines_16 (link_V (as := []) (rest := []) (r := (R_Drf, T_Drf, 7)) d_Drf_readLines_16 cal_Drf_readLine wM_Drf_106 rfl (hN_o (hJ.kd) (by decide)) rfl) cal_Drf_readLine (c_Drf_readLine hS hJ hF (by omega)) (Nat.le_of_ble_eq_true rfl) ⟨Nat.le_of_ble_eq_true rfl, Nat.le_of_ble_eq_true rfl⟩ (fun h' q16 => ?_)
          obtain ⟨F1, rfl, hF1⟩ := q16
          refine wp_if_neB (tgt := 24) d_Drf_readLines_19 (by decide) (fun c19 => ?_) (fun c19 => ?_)
          · obtain ⟨b1, hb1⟩ := inl_of c19
            have hb2 := pLine_b hb1
            refine wp_iinc (lv' := [(1, .int (nI (n + 1))), (0, .ref d)]) d_Drf_readLines_24 0 rfl (nI_1 _) (by decide) rfl ?_
            refine wp_goto (tgt := 2) d_Drf_readLines_27 (by decide) ?_
            exact ih (n + 1) b1 _ (by omega) (by omega) (by omega) (hF1.2.1 _ hb1) (hfr.tr hF1.1) (by rw [hp, show 20 - n = (20 - (n + 1)) + 1 by omega, pBody_4 c12 hb1])
          · refine wp_iconst (v := nI 0) d_Drf_readLines_22 (by decide) ?_
            exact (inr_of c19).elim (fun x hx => wp_zret (ty := .boolean) d_Drf_readLines_23 rfl rfl ⟨resI (bI_zero (by rw [hp, show 20 - n = (19 - n) + 1 by omega, pBody_5 c12 hx]; rfl)), _, rfl, by rw [hp, show 20 - n = (19 - n) + 1 by omega, pBody_5 c12 hx]; exact ⟨hfr.tr hF1.1, fun f hf => by cases hf; exact hF1.2.2 _ hx⟩⟩)
  refine wp_iconst (v := nI 0) d_Drf_readLines_0 (by decide) ?_
  refine wp_istore_n (lv' := [(1, .int (nI 0)), (0, .ref d)]) d_Drf_readLines_1 rfl (by decide) rfl ?_
  exact L2 21 0 a I (by omega) (by omega) (by omega) ha dF_0 rfl
def HPc (res : PR (Nat × Nat)) (d : Nat) (I I' : Nat → Nat → Int32) : Prop := (∀ g q, (q ≠ d ∨ (g ≠ 24 ∧ g ≠ 26 ∧ g ≠ 27)) → I' g q = I g q) ∧ (∀ p b, res = .inl (p, b) → I' 24 d = nI p ∧ I' 26 d = nI b) ∧ ∀ f, res = .inr f → I' 27 d = fltI f
theorem HPc_no {d a r : Nat} {x : Int32} {I : Nat → Nat → Int32} : HPc (.inr (a, r)) d I (u2 (u2 I 24 d x) 27 d (fltI (a, r))) := by
  refine ⟨fun g q hq => ?_, fun p b hb => (by cases hb), fun f hf => by cases hf; rw [u2_at, if_pos rfl]⟩
  by_cases hd : q = d
  · rw [u2_ne _ _ (by omega), u2_ne _ _ (by omega)]
  · rw [u2_q _ _ hd, u2_q _ _ hd]
set_option maxRecDepth 20000 in
theorem c_Drf_readPriority0 {G : Gt} {K N : Nat → Nat} {I : Nat → Nat → Int32} {R : Nat → Nat → Option Nat} {L : Nat → Nat → Int64} {E : Nat → Nat → Int32} {El : Nat → Nat → Int64} {Er : Nat → Nat → Option Nat} (hS : jOK G) {d b da : Nat} {t : Nat → Nat} {ln : Nat} (hJ : Jd K N I R E d b da t ln) (hr : rankOf (gv t ln 0) = none) : CallE G m_Drf_readPriority 4 60 [.ref d] (hN K N I R L E El Er) 0 0 (some (.int (bI (pHead (gv t ln)).isLeft))) (fun h' => ∃ I', h' = hN K N I' R L E El Er ∧ HPc (pHead (gv t ln)) d I I') := by
  have hn0 : pHead (gv t ln) = .inr (0, 1) := by unfold pHead; rw [hr]
  refine CallS.of (Nat.le_of_ble_eq_true rfl) ?_
  refine wp_aload_n d_Drf_readPriority_0 rfl 0 rfl ?_
  refine wp_iconst (v := nI 0) d_Drf_readPriority_1 (by decide) ?_
  refine wp_callV (r := 0) d_Drf_readPriority_2 (link_V (as := [.int (nI 0)]) (rest := []) (r := (R_Drf, T_Drf, 7)) d_Drf_readPriority_2 cal_Drf_byteAt wM_Drf_59 rfl (hN_o (hJ.kd) (by decide)) rfl) cal_Drf_byteAt (c_Drf_byteAt hJ (by omega)) (Nat.le_of_ble_eq_true rfl) ⟨Nat.le_of_ble_eq_true rfl, Nat.le_of_ble_eq_true rfl⟩ ?_
  refine wp_istore_n (lv' := [(1, .int (gI t ln 0)), (0, .ref d)]) d_Drf_readPriority_5 rfl (by decide) rfl ?_
  refine wp_aload_n d_Drf_readPriority_6 rfl 1 rfl ?_
  refine wp_iconst (v := nI 1) d_Drf_readPriority_7 (by decide) ?_
  refine wp_callV (r := 0) d_Drf_readPriority_8 (link_V (as := [.int (nI 1)]) (rest := []) (r := (R_Drf, T_Drf, 7)) d_Drf_readPriority_8 cal_Drf_byteAt wM_Drf_59 rfl (hN_o (hJ.kd) (by decide)) rfl) cal_Drf_byteAt (c_Drf_byteAt hJ (by omega)) (Nat.le_of_ble_eq_true rfl) ⟨Nat.le_of_ble_eq_true rfl, Nat.le_of_ble_eq_true rfl⟩ ?_
  refine wp_istore_n (lv' := [(2, .int (gI t ln 1)), (1, .int (gI t ln 0)), (0, .ref d)]) d_Drf_readPriority_11 rfl (by decide) rfl ?_
  refine wp_aload_n d_Drf_readPriority_12 rfl 2 rfl ?_
  refine wp_iload_n d_Drf_readPriority_13 rfl 1 rfl ?_
  refine wp_if_ge (tgt := 21) d_Drf_readPriority_14 (by decide) (fun c14 => ?_) (fun c14 => ?_)
  · obtain ⟨e1, e2, e3⟩ := gv_nat hJ.ht (Int32.not_lt.mpr c14)
    have e4 := hJ.ht 0
    refine wp_ldcS d_Drf_readPriority_21 wS_Drf_63 (fun sa hsR hsS => ?_)
    rw [str_SDFGK] at hsS
    obtain ⟨hO, hC, v, hV, hT⟩ := hsS
    have hbs : ([83, 68, 70, 71, 75] : List Nat).length < 100 := by decide
    refine wp_iload_n d_Drf_readPriority_23 rfl 1 rfl ?_
    refine wp_toI (z := (nI (t 0))) (e3) ?_
    refine wp_i2c (v := nI (t 0)) d_Drf_readPriority_24 (i2c_256 _ (by omega)) ?_
    refine wp_callSt (k' := 0) (n' := 0) (r := 1) (as := [.int (nI (t 0))]) (rest := [.ref d]) d_Drf_readPriority_25 cal_String_indexOf wM_Drf_65 rfl hO (c_String_indexOf hS hO hC hV hT hbs (by decide) (by decide) (c := (t 0)) (by omega)) (Nat.le_of_ble_eq_true rfl) ⟨Nat.le_of_ble_eq_true rfl, Nat.le_of_ble_eq_true rfl⟩ ?_
    refine wp_toI (z := (-1)) (by rw [rk_idx _ e4, ← e2, rkI, hr]) ?_
    refine wn_put_Drf (ty := t_Drf 3) (I' := u2 I 24 d (-1)) (R' := R) (L' := L) d_Drf_readPriority_28 (hJ.kd) 3 (by decide) wF_Drf_50 rfl (t_Drf_ok 3 (by decide)) rfl rfl sF_24 (oI _ _ _ 24 _) ?_
    refine wp_aload_n d_Drf_readPriority_31 rfl 2 rfl ?_
    refine wn_get_Drf d_Drf_readPriority_32 (hJ.kd) 3 (by decide) wF_Drf_50 rfl ?_
    refine wp_toI (z := (-1)) (by rw [u2_at, if_pos rfl]) ?_
    refine wp_if_ge (tgt := 45) d_Drf_readPriority_35 (by decide) (fun c => absurd c (by decide)) (fun _ => ?_)
    refine wp_aload_n d_Drf_readPriority_38 rfl 2 rfl ?_
    refine wp_iconst (v := nI 1) d_Drf_readPriority_39 (by decide) ?_
    refine wp_iconst (v := nI 0) d_Drf_readPriority_40 (by decide) ?_
    refine wp_callV (r := 0) d_Drf_readPriority_41 (link_V (as := [.int (nI 1), .int (nI 0)]) (rest := []) (r := (R_Drf, T_Drf, 7)) d_Drf_readPriority_41 cal_Drf_tell wM_Drf_70 rfl (hN_o (hJ.kd) (by decide)) rfl) cal_Drf_tell (c_Drf_tell (r := 1) (a := 0) hJ.kd) (Nat.le_of_ble_eq_true rfl) ⟨Nat.le_of_ble_eq_true rfl, Nat.le_of_ble_eq_true rfl⟩ ?_
    exact wp_zret (ty := .boolean) d_Drf_readPriority_44 rfl rfl ⟨resI (bI_zero (by rw [hn0]; rfl)), _, rfl, by rw [hn0]; exact HPc_no⟩
  · refine wp_iconst (v := -1) d_Drf_readPriority_17 (by decide) ?_
    refine wp_goto (tgt := 28) d_Drf_readPriority_18 (by decide) ?_
    refine wn_put_Drf (ty := t_Drf 3) (I' := u2 I 24 d (-1)) (R' := R) (L' := L) d_Drf_readPriority_28 (hJ.kd) 3 (by decide) wF_Drf_50 rfl (t_Drf_ok 3 (by decide)) rfl rfl sF_24 (oI _ _ _ 24 _) ?_
    refine wp_aload_n d_Drf_readPriority_31 rfl 2 rfl ?_
    refine wn_get_Drf d_Drf_readPriority_32 (hJ.kd) 3 (by decide) wF_Drf_50 rfl ?_
    refine wp_toI (z := (-1)) (by rw [u2_at, if_pos rfl]) ?_
    refine wp_if_ge (tgt := 45) d_Drf_readPriority_35 (by decide) (fun c => absurd c (by decide)) (fun _ => ?_)
    refine wp_aload_n d_Drf_readPriority_38 rfl 2 rfl ?_
    refine wp_iconst (v := nI 1) d_Drf_readPriority_39 (by decide) ?_
    refine wp_iconst (v := nI 0) d_Drf_readPriority_40 (by decide) ?_
    refine wp_callV (r := 0) d_Drf_readPriority_41 (link_V (as := [.int (nI 1), .int (nI 0)]) (rest := []) (r := (R_Drf, T_Drf, 7)) d_Drf_readPriority_41 cal_Drf_tell wM_Drf_70 rfl (hN_o (hJ.kd) (by decide)) rfl) cal_Drf_tell (c_Drf_tell (r := 1) (a := 0) hJ.kd) (Nat.le_of_ble_eq_true rfl) ⟨Nat.le_of_ble_eq_true rfl, Nat.le_of_ble_eq_true rfl⟩ ?_
    exact wp_zret (ty := .boolean) d_Drf_readPriority_44 rfl rfl ⟨resI (bI_zero (by rw [hn0]; rfl)), _, rfl, by rw [hn0]; exact HPc_no⟩
set_option maxRecDepth 20000 in
theorem c_Drf_readPriority1 {G : Gt} {K N : Nat → Nat} {I : Nat → Nat → Int32} {R : Nat → Nat → Option Nat} {L : Nat → Nat → Int64} {E : Nat → Nat → Int32} {El : Nat → Nat → Int64} {Er : Nat → Nat → Option Nat} (hS : jOK G) {d b da : Nat} {t : Nat → Nat} {ln : Nat} (hJ : Jd K N I R E d b da t ln) {p : Nat} (hr : rankOf (gv t ln 0) = some p) : CallE G m_Drf_readPriority 4 60 [.ref d] (hN K N I R L E El Er) 0 0 (some (.int (bI (pHead (gv t ln)).isLeft))) (fun h' => ∃ I', h' = hN K N I' R L E El Er ∧ HPc (pHead (gv t ln)) d I I') := by
  have hp5 := (rank_ne hr).2
  have hn1 : gv t ln 1 = -1 → pHead (gv t ln) = .inr (1, 1) := fun h => by unfold pHead; rw [hr]; simp [h]
  have hn2 : ¬ gv t ln 1 = -1 → ¬ gv t ln 1 = gv t ln 0 → pHead (gv t ln) = .inr (0, 1) := fun h3 h4 => by
    unfold pHead
    rw [hr]
    simp [h3, h4]
  have hph : ¬ gv t ln 1 = -1 → gv t ln 1 = gv t ln 0 → pHead (gv t ln) = (match pByte (gv t ln) 10 1 2 with | .inl a => .inl (p, a) | .inr f => .inr f) := fun h3 h4 => by
    unfold pHead
    rw [hr]
    simp only [h3, h4, if_false, ne_eq, not_true_eq_false]
    have h5 : ¬ gv t ln 0 = -1 := (rank_ne hr).1
    simp only [h5, if_false]
    cases pByte (gv t ln) 10 1 2 <;> rfl
  have hlast : ∀ F1, DP (pByte (gv t ln) 10 1 2) d (u2 (u2 I 24 d (nI p)) 26 d (nI 2)) F1 → HPc (match pByte (gv t ln) 10 1 2 with | .inl a => .inl (p, a) | .inr f => .inr f) d I F1 := fun F1 h => by
    refine ⟨fun g q hq => ?_, fun q b hb => ?_, fun f hf => ?_⟩
    · rw [h.1 g q (by omega)]
      by_cases hd : q = d
      · rw [u2_ne _ _ (by omega), u2_ne _ _ (by omega)]
      · rw [u2_q _ _ hd, u2_q _ _ hd]
    · cases hc : pByte (gv t ln) 10 1 2 with
      | inl a =>
        rw [hc] at hb
        cases hb
        exact ⟨by rw [h.1 24 d (Or.inr ⟨by decide, by decide⟩), u2_ne _ _ (by decide), u2_at, if_pos rfl], h.2.1 _ hc⟩
      | inr a =>
        rw [hc] at hb
        cases hb
    · cases hc : pByte (gv t ln) 10 1 2 with
      | inl a =>
        rw [hc] at hf
        cases hf
      | inr a =>
        rw [hc] at hf
        cases hf
        exact h.2.2 _ hc
  refine CallS.of (Nat.le_of_ble_eq_true rfl) ?_
  refine wp_aload_n d_Drf_readPriority_0 rfl 0 rfl ?_
  refine wp_iconst (v := nI 0) d_Drf_readPriority_1 (by decide) ?_
  refine wp_callV (r := 0) d_Drf_readPriority_2 (link_V (as := [.int (nI 0)]) (rest := []) (r := (R_Drf, T_Drf, 7)) d_Drf_readPriority_2 cal_Drf_byteAt wM_Drf_59 rfl (hN_o (hJ.kd) (by decide)) rfl) cal_Drf_byteAt (c_Drf_byteAt hJ (by omega)) (Nat.le_of_ble_eq_true rfl) ⟨Nat.le_of_ble_eq_true rfl, Nat.le_of_ble_eq_true rfl⟩ ?_
  refine wp_istore_n (lv' := [(1, .int (gI t ln 0)), (0, .ref d)]) d_Drf_readPriority_5 rfl (by decide) rfl ?_
  refine wp_aload_n d_Drf_readPriority_6 rfl 1 rfl ?_
  refine wp_iconst (v := nI 1) d_Drf_readPriority_7 (by decide) ?_
  refine wp_callV (r := 0) d_Drf_readPriority_8 (link_V (as := [.int (nI 1)]) (rest := []) (r := (R_Drf, T_Drf, 7)) d_Drf_readPriority_8 cal_Drf_byteAt wM_Drf_59 rfl (hN_o (hJ.kd) (by decide)) rfl) cal_Drf_byteAt (c_Drf_byteAt hJ (by omega)) (Nat.le_of_ble_eq_true rfl) ⟨Nat.le_of_ble_eq_true rfl, Nat.le_of_ble_eq_true rfl⟩ ?_
  refine wp_istore_n (lv' := [(2, .int (gI t ln 1)), (1, .int (gI t ln 0)), (0, .ref d)]) d_Drf_readPriority_11 rfl (by decide) rfl ?_
  refine wp_aload_n d_Drf_readPriority_12 rfl 2 rfl ?_
  refine wp_iload_n d_Drf_readPriority_13 rfl 1 rfl ?_
  refine wp_if_ge (tgt := 21) d_Drf_readPriority_14 (by decide) (fun c14 => ?_) (fun c14 => ?_)
  · obtain ⟨e1, e2, e3⟩ := gv_nat hJ.ht (Int32.not_lt.mpr c14)
    have e4 := hJ.ht 0
    refine wp_ldcS d_Drf_readPriority_21 wS_Drf_63 (fun sa hsR hsS => ?_)
    rw [str_SDFGK] at hsS
    obtain ⟨hO, hC, v, hV, hT⟩ := hsS
    have hbs : ([83, 68, 70, 71, 75] : List Nat).length < 100 := by decide
    refine wp_iload_n d_Drf_readPriority_23 rfl 1 rfl ?_
    refine wp_toI (z := (nI (t 0))) (e3) ?_
    refine wp_i2c (v := nI (t 0)) d_Drf_readPriority_24 (i2c_256 _ (by omega)) ?_
    refine wp_callSt (k' := 0) (n' := 0) (r := 1) (as := [.int (nI (t 0))]) (rest := [.ref d]) d_Drf_readPriority_25 cal_String_indexOf wM_Drf_65 rfl hO (c_String_indexOf hS hO hC hV hT hbs (by decide) (by decide) (c := (t 0)) (by omega)) (Nat.le_of_ble_eq_true rfl) ⟨Nat.le_of_ble_eq_true rfl, Nat.le_of_ble_eq_true rfl⟩ ?_
    refine wp_toI (z := (nI p)) (by rw [rk_idx _ e4, ← e2, rkI, hr]) ?_
    refine wn_put_Drf (ty := t_Drf 3) (I' := u2 I 24 d (nI p)) (R' := R) (L' := L) d_Drf_readPriority_28 (hJ.kd) 3 (by decide) wF_Drf_50 rfl (t_Drf_ok 3 (by decide)) rfl rfl sF_24 (oI _ _ _ 24 _) ?_
    refine wp_aload_n d_Drf_readPriority_31 rfl 2 rfl ?_
    refine wn_get_Drf d_Drf_readPriority_32 (hJ.kd) 3 (by decide) wF_Drf_50 rfl ?_
    refine wp_toI (z := (nI p)) (by rw [u2_at, if_pos rfl]) ?_
    refine wp_if_geN (tgt := 45) d_Drf_readPriority_35 (by decide) (by omega) ?_
    refine wp_iload_n d_Drf_readPriority_45 rfl 0 rfl ?_
    refine wp_iconst (v := -1) d_Drf_readPriority_46 (by decide) ?_
    refine wp_icmp_ne (tgt := 57) d_Drf_readPriority_47 (by decide) (fun c47 => ?_) (fun c47 => ?_)
    · refine wp_iload_n d_Drf_readPriority_57 rfl 0 rfl ?_
      refine wp_iload_n d_Drf_readPriority_58 rfl 1 rfl ?_
      refine wp_icmp_eq (tgt := 69) d_Drf_readPriority_59 (by decide) (fun c59 => ?_) (fun c59 => ?_)
      · refine wp_aload_n d_Drf_readPriority_69 rfl 2 rfl ?_
        refine wp_iconst (v := nI 2) d_Drf_readPriority_70 (by decide) ?_
        refine wn_put_Drf (ty := t_Drf 5) (I' := u2 (u2 I 24 d (nI p)) 26 d (nI 2)) (R' := R) (L' := L) d_Drf_readPriority_71 (hJ.kd) 5 (by decide) wF_Drf_74 rfl (t_Drf_ok 5 (by decide)) rfl rfl sF_26 (oI _ _ _ 26 _) ?_
        have hJ1 : Jd K N (u2 (u2 I 24 d (nI p)) 26 d (nI 2)) R E d b da t ln := hJ.I (by rw [u2_ne _ _ (by decide), u2_ne _ _ (by decide)])
        refine wp_aload_n d_Drf_readPriority_74 rfl 2 rfl ?_
        refine wp_bipush (v := nI 10) d_Drf_readPriority_75 (by decide) ?_
        refine wp_iconst (v := nI 1) d_Drf_readPriority_77 (by decide) ?_
        refine wp_callEV (k' := 0) (n' := 0) (r := 0) d_Drf_readPriority_78 (link_V (as := [.int (nI 10), .int (nI 1)]) (rest := []) (r := (R_Drf, T_Drf, 7)) d_Drf_readPriority_78 cal_Drf_readByte wM_Drf_77 rfl (hN_o (hJ.kd) (by decide)) rfl) cal_Drf_readByte (c_Drf_readByte (a := 2) hJ1 (by rw [u2_at, if_pos rfl]) (by omega) (by omega)) (Nat.le_of_ble_eq_true rfl) ⟨Nat.le_of_ble_eq_true rfl, Nat.le_of_ble_eq_true rfl⟩ (fun h' q78 => ?_)
        obtain ⟨F1, rfl, hF1⟩ := q78
        exact wp_zret (ty := .boolean) d_Drf_readPriority_81 rfl (narB' _) ⟨resI (by rw [hph (fun q => c47 ((gI_m1 hJ.ht _ _).mpr q)) ((gI_gI hJ.ht _ _ _).mp c59)]; cases pByte (gv t ln) 10 1 2 <;> rfl), _, rfl, by rw [hph (fun q => c47 ((gI_m1 hJ.ht _ _).mpr q)) ((gI_gI hJ.ht _ _ _).mp c59)]; exact hlast F1 hF1⟩
      · refine wp_aload_n d_Drf_readPriority_62 rfl 2 rfl ?_
        refine wp_iconst (v := nI 1) d_Drf_readPriority_63 (by decide) ?_
        refine wp_iconst (v := nI 0) d_Drf_readPriority_64 (by decide) ?_
        refine wp_callV (r := 0) d_Drf_readPriority_65 (link_V (as := [.int (nI 1), .int (nI 0)]) (rest := []) (r := (R_Drf, T_Drf, 7)) d_Drf_readPriority_65 cal_Drf_tell wM_Drf_70 rfl (hN_o (hJ.kd) (by decide)) rfl) cal_Drf_tell (c_Drf_tell (r := 1) (a := 0) hJ.kd) (Nat.le_of_ble_eq_true rfl) ⟨Nat.le_of_ble_eq_true rfl, Nat.le_of_ble_eq_true rfl⟩ ?_
        exact wp_zret (ty := .boolean) d_Drf_readPriority_68 rfl rfl ⟨resI (bI_zero (by rw [hn2 (fun q => c47 ((gI_m1 hJ.ht _ _).mpr q)) (fun q => c59 ((gI_gI hJ.ht _ _ _).mpr q))]; rfl)), _, rfl, by rw [hn2 (fun q => c47 ((gI_m1 hJ.ht _ _).mpr q)) (fun q => c59 ((gI_gI hJ.ht _ _ _).mpr q))]; exact HPc_no⟩
    · refine wp_aload_n d_Drf_readPriority_50 rfl 2 rfl ?_
      refine wp_iconst (v := nI 1) d_Drf_readPriority_51 (by decide) ?_
      refine wp_iconst (v := nI 1) d_Drf_readPriority_52 (by decide) ?_
      refine wp_callV (r := 0) d_Drf_readPriority_53 (link_V (as := [.int (nI 1), .int (nI 1)]) (rest := []) (r := (R_Drf, T_Drf, 7)) d_Drf_readPriority_53 cal_Drf_tell wM_Drf_70 rfl (hN_o (hJ.kd) (by decide)) rfl) cal_Drf_tell (c_Drf_tell (r := 1) (a := 1) hJ.kd) (Nat.le_of_ble_eq_true rfl) ⟨Nat.le_of_ble_eq_true rfl, Nat.le_of_ble_eq_true rfl⟩ ?_
      exact wp_zret (ty := .boolean) d_Drf_readPriority_56 rfl rfl ⟨resI (bI_zero (by rw [hn1 ((gI_m1 hJ.ht _ _).mp c47)]; rfl)), _, rfl, by rw [hn1 ((gI_m1 hJ.ht _ _).mp c47)]; exact HPc_no⟩
  · exact absurd (gv_m1 hJ.ht (Int32.not_le.mp c14)).1 (rank_ne hr).1
theorem c_Drf_readPriority {G : Gt} {K N : Nat → Nat} {I : Nat → Nat → Int32} {R : Nat → Nat → Option Nat} {L : Nat → Nat → Int64} {E : Nat → Nat → Int32} {El : Nat → Nat → Int64} {Er : Nat → Nat → Option Nat} (hS : jOK G) {d b da : Nat} {t : Nat → Nat} {ln : Nat} (hJ : Jd K N I R E d b da t ln) : CallE G m_Drf_readPriority 4 60 [.ref d] (hN K N I R L E El Er) 0 0 (some (.int (bI (pHead (gv t ln)).isLeft))) (fun h' => ∃ I', h' = hN K N I' R L E El Er ∧ HPc (pHead (gv t ln)) d I I') := by
  cases hr : rankOf (gv t ln 0) with
  | none => exact CallE.up (c_Drf_readPriority0 hS hJ hr) (by decide) (by decide) (fun _ z => z)
  | some p => exact CallE.up (c_Drf_readPriority1 hS hJ hr) (by decide) (by decide) (fun _ z => z)
end Cls8
