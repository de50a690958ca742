section Mod5
theorem nnnn_end {t : Nat → Nat} {ln a : Nat} (h : isNNNN (gv t ln) a = true) : ln = a + 4 ↔ gv t ln (a + 4) = -1 := by
  have h3 : gv t ln (a + 3) = 78 := by
    unfold isNNNN at h
    simp at h
    exact h.2
  have h4 : a + 3 < ln := by
    unfold gv at h3
    split at h3 <;> omega
  unfold gv
  split <;> omega
theorem pSigns_no {g : Nat → Int} {k a : Nat} (h : isSgn (g a) = false) : pSigns g k a = a := by
  cases k with
  | zero => rfl
  | succ k => rw [pSigns, if_neg (by rw [h]; decide)]
/-- what a step of the judge leaves, of any result -/
def RPg {α : Type} (res : PR α) (Fi Fi' : Nat → Int32) : Prop := (∀ j, j ≠ 37 → j ≠ 38 → j ≠ 40 → Fi' j = Fi j) ∧ ∀ f, res = .inr f → Fi' 37 = nI f.1 ∧ Fi' 38 = nI f.2
theorem RPg_no {α : Type} {Fi F : Nat → Int32} {a r : Nat} (h : ∀ j, j ≠ 37 → j ≠ 38 → j ≠ 40 → F j = Fi j) : RPg (α := α) (.inr (a, r)) Fi (va_up (va_up F 37 (nI a)) 38 (nI r)) := by
  refine ⟨fun j h1 h2 h3 => by simp [va_up, h1, h2, h j h1 h2 h3], fun f hf => ?_⟩
  cases hf
  exact ⟨by simp [va_up], by simp [va_up]⟩
set_option maxRecDepth 20000 in
theorem c_Mod_body {G : Gt} {o : Nat} {A : Nat → Nat} {Fi : Nat → Int32} {M : Nat → Nat → Int32} {Ml : Nat → Nat → Int64} {t : Nat → Nat} {ln : Nat} (hI : mInj o A) (hJ : Jt t ln Fi M) {a : Nat} (ha : Fi 40 = nI a) (hab : a < 2 ^ 18) : CallE G m_Mod_body 3 38 [.ref o] (hM o A Fi M Ml) 0 0 (some (.int (bI (pBody (gv t ln) 20 a).isLeft))) (fun h' => ∃ Fi', h' = hM o A Fi' M Ml ∧ RPg (pBody (gv t ln) 20 a) Fi Fi') := by
  refine CallS.of (Nat.le_of_ble_eq_true rfl) ?_
  have L92 : ∀ (f g n b : Nat) (F : Nat → Int32), 69 - g < f → (g ≤ 69 ∧ b < 2 ^ 20) → F 40 = nI (b + g) → (∀ j, j ≠ 37 → j ≠ 38 → j ≠ 40 → F j = Fi j) → pSigns (gv t ln) 69 b = pSigns (gv t ln) (69 - g) (b + g) → (∀ (g : Nat) (F : Nat → Int32), F 40 = nI (b + g) → (∀ j, j ≠ 37 → j ≠ 38 → j ≠ 40 → F j = Fi j) → pSigns (gv t ln) 69 b = b + g → g ≤ 69 → WP G m_Mod_body (3, 38, 0, 0, (hM o A Fi M Ml), fun r9 h9 => r9 = .inl (some (.int (bI (pBody (gv t ln) 20 a).isLeft))) ∧ (fun h' => ∃ Fi', h' = hM o A Fi' M Ml ∧ RPg (pBody (gv t ln) 20 a) Fi Fi') h9) 128 [(2, .int (nI g)), (1, .int (nI n)), (0, .ref o)] [] (hM o A F M Ml) 0 0) → WP G m_Mod_body (3, 38, 0, 0, (hM o A Fi M Ml), fun r9 h9 => r9 = .inl (some (.int (bI (pBody (gv t ln) 20 a).isLeft))) ∧ (fun h' => ∃ Fi', h' = hM o A Fi' M Ml ∧ RPg (pBody (gv t ln) 20 a) Fi Fi') h9) 92 [(2, .int (nI g)), (1, .int (nI n)), (0, .ref o)] [] (hM o A F M Ml) 0 0 := by
    intro f g n b
    revert g
    induction f with
    | zero =>
      intro g F h1
      omega
    | succ f ih =>
      intro g F hf hg hF hfr hp KK
      have hJ : Jt t ln F M := ⟨hJ.1, (hfr 39 (by decide) (by decide) (by decide)).trans hJ.2.1, hJ.2.2⟩
      refine wp_aload_n d_Mod_body_92 rfl 2 rfl ?_
      refine wp_aload_n d_Mod_body_93 rfl 2 rfl ?_
      refine wm_get d_Mod_body_94 40 (by decide) wF_Mod_148 rfl ?_
      refine wp_toI (z := (nI (b + g))) (hF) ?_
      refine wp_callV (r := 0) d_Mod_body_97 (link_V (as := [.int (nI (b + g))]) (rest := []) (r := (R_Mod, T_Mod, 43)) d_Mod_body_97 cal_Mod_here wM_Mod_151 rfl hM_o rfl) cal_Mod_here (c_Mod_here hI hJ (by omega)) (Nat.le_of_ble_eq_true rfl) ⟨Nat.le_of_ble_eq_true rfl, Nat.le_of_ble_eq_true rfl⟩ ?_
      refine wp_callV (r := 0) d_Mod_body_100 (link_S (av := [.int (gI t ln (b + g))]) (rest := []) d_Mod_body_100 cal_Mod_isSign wM_Mod_173 rfl) cal_Mod_isSign (c_Mod_isSign hJ.2.2.2 _ _) (Nat.le_of_ble_eq_true rfl) ⟨Nat.le_of_ble_eq_true rfl, Nat.le_of_ble_eq_true rfl⟩ ?_
      refine wp_if_eqB (tgt := 128) d_Mod_body_103 (by decide) (fun c103 => ?_) (fun c103 => ?_)
      · exact KK g F hF hfr (by first | (rw [hp, pSigns_no c103]) | (rw [hp, show 69 - g = 0 by omega, pSigns])) (by omega)
      · refine wp_iload_n d_Mod_body_106 rfl 0 rfl ?_
        refine wp_bipush (v := nI 69) d_Mod_body_107 (by decide) ?_
        refine wp_geN (tgt := 128) d_Mod_body_109 (by decide) (by omega) (by omega) (fun c109 => ?_) (fun c109 => ?_)
        · exact KK g F hF hfr (by first | (rw [hp, pSigns_no c103]) | (rw [hp, show 69 - g = 0 by omega, pSigns])) (by omega)
        · refine wp_aload_n d_Mod_body_112 rfl 2 rfl ?_
          refine wp_dup d_Mod_body_113 rfl ?_
          refine wm_get d_Mod_body_114 40 (by decide) wF_Mod_148 rfl ?_
          refine wp_toI (z := (nI (b + g))) (hF) ?_
          refine wp_iconst (v := nI 1) d_Mod_body_117 (by decide) ?_
          refine wp_iaddN d_Mod_body_118 ?_
          refine wm_put (Fi' := va_up F 40 (nI ((b + g) + 1))) d_Mod_body_119 40 (by decide) wF_Mod_148 rfl (by decide) rfl ?_
          refine wp_iinc (lv' := [(2, .int (nI (g + 1))), (1, .int (nI n)), (0, .ref o)]) d_Mod_body_122 0 rfl (nI_1 _) (by decide) rfl ?_
          refine wp_goto (tgt := 92) d_Mod_body_125 (by decide) ?_
          exact ih (g + 1) _ (by omega) (by omega) (by simp [va_up, Nat.add_assoc]) (fun j h1 h2 h3 => by simp [va_up, h3, hfr j h1 h2 h3]) (by rw [hp, show 69 - g = (69 - (g + 1)) + 1 by omega, pSigns, if_pos c103]; rfl) KK
  have L2 : ∀ (f n a' : Nat) (F : Nat → Int32), 20 - n < f → n ≤ 20 → a' ≤ a + 70 * n → F 40 = nI a' → (∀ j, j ≠ 37 → j ≠ 38 → j ≠ 40 → F j = Fi j) → pBody (gv t ln) 20 a = pBody (gv t ln) (20 - n) a' → WP G m_Mod_body (3, 38, 0, 0, (hM o A Fi M Ml), fun r9 h9 => r9 = .inl (some (.int (bI (pBody (gv t ln) 20 a).isLeft))) ∧ (fun h' => ∃ Fi', h' = hM o A Fi' M Ml ∧ RPg (pBody (gv t ln) 20 a) Fi Fi') h9) 2 [(1, .int (nI n)), (0, .ref o)] [] (hM o A F M Ml) 0 0 := by
    intro f
    induction f with
    | zero =>
      intro n a' F h1
      omega
    | succ f ih =>
      intro n a' F hf hn haa hF hfr hp
      have hJ : Jt t ln F M := ⟨hJ.1, (hfr 39 (by decide) (by decide) (by decide)).trans hJ.2.1, hJ.2.2⟩
      have hln := hJ.1
      have e10 : ∀ q, gI t ln q = nI 10 ↔ gv t ln q = 10 := fun q => gI_eq hJ.2.2.2 ln q (by decide)
      have hp1 : isNNNN (gv t ln) a' = true → ln = a' + 4 → pBody (gv t ln) 20 a = .inl () := fun h1 h2 => by
        rw [hp]
        unfold pBody
        rw [if_pos ⟨h1, (nnnn_end h1).mp h2⟩]
      have hp2 : isNNNN (gv t ln) a' = true → ¬ ln = a' + 4 → gI t ln (a' + 4) = nI 10 → pBody (gv t ln) 20 a = .inr (a' + 4, 8) := fun h1 h2 h3 => by
        rw [hp]
        unfold pBody
        rw [if_neg (fun q => h2 ((nnnn_end h1).mpr q.2)), if_pos ⟨h1, (e10 _).mp h3⟩]
      have hp3 : (isNNNN (gv t ln) a' = true → ¬ ln = a' + 4) → (isNNNN (gv t ln) a' = true → ¬ gI t ln (a' + 4) = nI 10) → n = 20 → pBody (gv t ln) 20 a = .inr (a', 7) := fun h1 h2 h3 => by
        rw [hp, h3]
        unfold pBody
        rw [if_neg (fun q => h1 q.1 ((nnnn_end q.1).mpr q.2)), if_neg (fun q => h2 q.1 ((e10 _).mpr q.2))]
        rfl
      have hp45 : (isNNNN (gv t ln) a' = true → ¬ ln = a' + 4) → (isNNNN (gv t ln) a' = true → ¬ gI t ln (a' + 4) = nI 10) → n < 20 → pBody (gv t ln) 20 a = if gv t ln (pSigns (gv t ln) 69 a') ≠ 10 ∨ pSigns (gv t ln) 69 a' = a' then .inr (pSigns (gv t ln) 69 a', 6) else pBody (gv t ln) (20 - (n + 1)) (pSigns (gv t ln) 69 a' + 1) := fun h1 h2 h3 => by
        rw [hp, show 20 - n = (20 - (n + 1)) + 1 by omega]
        conv => lhs; unfold pBody
        rw [if_neg (fun q => h1 q.1 ((nnnn_end q.1).mpr q.2)), if_neg (fun q => h2 q.1 ((e10 _).mpr q.2))]
      have hp4 : ∀ {g : Nat}, pSigns (gv t ln) 69 a' = a' + g → ((isNNNN (gv t ln) a' = true → ¬ ln = a' + 4) ∧ (isNNNN (gv t ln) a' = true → ¬ gI t ln (a' + 4) = nI 10)) → n < 20 → (¬ gI t ln (a' + g) = nI 10 ∨ g = 0) → pBody (gv t ln) 20 a = .inr (a' + g, 6) := fun {g} hg h1 h3 h4 => by
        rw [hp45 h1.1 h1.2 h3, hg, if_pos]
        rcases h4 with h4 | h4
        · exact Or.inl fun q => h4 ((e10 _).mpr q)
        · exact Or.inr (by omega)
      have hp5 : ∀ {g : Nat}, pSigns (gv t ln) 69 a' = a' + g → ((isNNNN (gv t ln) a' = true → ¬ ln = a' + 4) ∧ (isNNNN (gv t ln) a' = true → ¬ gI t ln (a' + 4) = nI 10)) → n < 20 → gI t ln (a' + g) = nI 10 → 0 < g → pBody (gv t ln) 20 a = pBody (gv t ln) (20 - (n + 1)) (a' + g + 1) := fun {g} hg h1 h3 h4 h5 => by
        rw [hp45 h1.1 h1.2 h3, hg, if_neg]
        intro q
        rcases q with q | q
        · exact q ((e10 _).mp h4)
        · omega
      have J73 : (isNNNN (gv t ln) a' = true → ¬ ln = a' + 4) → (isNNNN (gv t ln) a' = true → ¬ gI t ln (a' + 4) = nI 10) → WP G m_Mod_body (3, 38, 0, 0, (hM o A Fi M Ml), fun r9 h9 => r9 = .inl (some (.int (bI (pBody (gv t ln) 20 a).isLeft))) ∧ (fun h' => ∃ Fi', h' = hM o A Fi' M Ml ∧ RPg (pBody (gv t ln) 20 a) Fi Fi') h9) 73 [(1, .int (nI n)), (0, .ref o)] [] (hM o A F M Ml) 0 0 := by
        intro hA hB
        refine wp_iload_n d_Mod_body_73 rfl 0 rfl ?_
        refine wp_bipush (v := nI 20) d_Mod_body_74 (by decide) ?_
        refine wp_neN (tgt := 90) d_Mod_body_76 (by decide) (by omega) (by omega) (fun c76 => ?_) (fun c76 => ?_)
        · refine wp_iconst (v := nI 0) d_Mod_body_90 (by decide) ?_
          refine wp_istore_n (lv' := [(2, .int (nI 0)), (1, .int (nI n)), (0, .ref o)]) d_Mod_body_91 rfl (by decide) rfl ?_
          refine L92 70 0 n a' F (by omega) (by omega) hF hfr rfl (fun g F' hF' hfr' hg hg9 => ?_)
          have hJ : Jt t ln F' M := ⟨hJ.1, (hfr' 39 (by decide) (by decide) (by decide)).trans (((hfr 39 (by decide) (by decide) (by decide)).symm).trans hJ.2.1), hJ.2.2⟩
          refine wp_aload_n d_Mod_body_128 rfl 2 rfl ?_
          refine wp_aload_n d_Mod_body_129 rfl 2 rfl ?_
          refine wm_get d_Mod_body_130 40 (by decide) wF_Mod_148 rfl ?_
          refine wp_toI (z := (nI (a' + g))) (hF') ?_
          refine wp_callV (r := 0) d_Mod_body_133 (link_V (as := [.int (nI (a' + g))]) (rest := []) (r := (R_Mod, T_Mod, 43)) d_Mod_body_133 cal_Mod_here wM_Mod_151 rfl hM_o rfl) cal_Mod_here (c_Mod_here hI hJ (by omega)) (Nat.le_of_ble_eq_true rfl) ⟨Nat.le_of_ble_eq_true rfl, Nat.le_of_ble_eq_true rfl⟩ ?_
          refine wp_bipush (v := nI 10) d_Mod_body_136 (by decide) ?_
          refine wp_icmp_ne (tgt := 145) d_Mod_body_138 (by decide) (fun c138 => ?_) (fun c138 => ?_)
          · refine wp_aload_n d_Mod_body_145 rfl 2 rfl ?_
            refine wp_aload_n d_Mod_body_146 rfl 2 rfl ?_
            refine wm_get d_Mod_body_147 40 (by decide) wF_Mod_148 rfl ?_
            refine wp_toI (z := (nI (a' + g))) (hF') ?_
            refine wp_bipush (v := nI 6) d_Mod_body_150 (by decide) ?_
            refine wp_callV (r := 0) d_Mod_body_152 (link_V (as := [.int (nI (a' + g)), .int (nI 6)]) (rest := []) (r := (R_Mod, T_Mod, 43)) d_Mod_body_152 cal_Mod_breaks wM_Mod_155 rfl hM_o rfl) cal_Mod_breaks (c_Mod_breaks (nI (a' + g)) (nI 6)) (Nat.le_of_ble_eq_true rfl) ⟨Nat.le_of_ble_eq_true rfl, Nat.le_of_ble_eq_true rfl⟩ ?_
            exact wp_zret (ty := .boolean) d_Mod_body_155 rfl rfl ⟨resI (bI_zero (by rw [hp4 hg ⟨hA, hB⟩ (by omega) (by first | exact Or.inl c138 | exact Or.inr c142)]; rfl)), _, rfl, by rw [hp4 hg ⟨hA, hB⟩ (by omega) (by first | exact Or.inl c138 | exact Or.inr c142)]; exact RPg_no hfr'⟩
          · refine wp_iload_n d_Mod_body_141 rfl 0 rfl ?_
            refine wp_if_neN (tgt := 156) d_Mod_body_142 (by decide) (by omega) (fun c142 => ?_) (fun c142 => ?_)
            · refine wp_aload_n d_Mod_body_156 rfl 2 rfl ?_
              refine wp_dup d_Mod_body_157 rfl ?_
              refine wm_get d_Mod_body_158 40 (by decide) wF_Mod_148 rfl ?_
              refine wp_toI (z := (nI (a' + g))) (hF') ?_
              refine wp_iconst (v := nI 1) d_Mod_body_161 (by decide) ?_
              refine wp_iaddN d_Mod_body_162 ?_
              refine wm_put (Fi' := va_up F' 40 (nI ((a' + g) + 1))) d_Mod_body_163 40 (by decide) wF_Mod_148 rfl (by decide) rfl ?_
              refine wp_iinc (lv' := [(1, .int (nI (n + 1))), (2, .int (nI g)), (0, .ref o)]) d_Mod_body_166 1 rfl (nI_1 _) (by decide) rfl ?_
              refine wp_goto (tgt := 2) d_Mod_body_169 (by decide) ?_
              refine wp_lv [0, 2] rfl ?_
              exact ih (n + 1) (a' + g + 1) _ (by omega) (by omega) (by omega) (by simp [va_up]) (fun j h1 h2 h3 => by simp [va_up, h3, hfr' j h1 h2 h3]) (hp5 hg ⟨hA, hB⟩ (by omega) c138 c142)
            · refine wp_aload_n d_Mod_body_145 rfl 2 rfl ?_
              refine wp_aload_n d_Mod_body_146 rfl 2 rfl ?_
              refine wm_get d_Mod_body_147 40 (by decide) wF_Mod_148 rfl ?_
              refine wp_toI (z := (nI (a' + g))) (hF') ?_
              refine wp_bipush (v := nI 6) d_Mod_body_150 (by decide) ?_
              refine wp_callV (r := 0) d_Mod_body_152 (link_V (as := [.int (nI (a' + g)), .int (nI 6)]) (rest := []) (r := (R_Mod, T_Mod, 43)) d_Mod_body_152 cal_Mod_breaks wM_Mod_155 rfl hM_o rfl) cal_Mod_breaks (c_Mod_breaks (nI (a' + g)) (nI 6)) (Nat.le_of_ble_eq_true rfl) ⟨Nat.le_of_ble_eq_true rfl, Nat.le_of_ble_eq_true rfl⟩ ?_
              exact wp_zret (ty := .boolean) d_Mod_body_155 rfl rfl ⟨resI (bI_zero (by rw [hp4 hg ⟨hA, hB⟩ (by omega) (by first | exact Or.inl c138 | exact Or.inr c142)]; rfl)), _, rfl, by rw [hp4 hg ⟨hA, hB⟩ (by omega) (by first | exact Or.inl c138 | exact Or.inr c142)]; exact RPg_no hfr'⟩
        · refine wp_aload_n d_Mod_body_79 rfl 1 rfl ?_
          refine wp_aload_n d_Mod_body_80 rfl 1 rfl ?_
          refine wm_get d_Mod_body_81 40 (by decide) wF_Mod_148 rfl ?_
          refine wp_toI (z := (nI (a'))) (hF) ?_
          refine wp_bipush (v := nI 7) d_Mod_body_84 (by decide) ?_
          refine wp_callV (r := 0) d_Mod_body_86 (link_V (as := [.int (nI (a')), .int (nI 7)]) (rest := []) (r := (R_Mod, T_Mod, 43)) d_Mod_body_86 cal_Mod_breaks wM_Mod_155 rfl hM_o rfl) cal_Mod_breaks (c_Mod_breaks (nI (a')) (nI 7)) (Nat.le_of_ble_eq_true rfl) ⟨Nat.le_of_ble_eq_true rfl, Nat.le_of_ble_eq_true rfl⟩ ?_
          exact wp_zret (ty := .boolean) d_Mod_body_89 rfl rfl ⟨resI (bI_zero (by rw [hp3 hA hB c76]; rfl)), _, rfl, by rw [hp3 hA hB c76]; exact RPg_no hfr⟩
      refine wp_iload_n d_Mod_body_2 rfl 0 rfl ?_
      refine wp_bipush (v := nI 20) d_Mod_body_3 (by decide) ?_
      refine wp_gtN (tgt := 172) d_Mod_body_5 (by decide) (by omega) (by omega) (fun c5 => ?_) (fun c5 => ?_)
      · refine wp_iconst (v := nI 0) d_Mod_body_172 (by decide) ?_
        exact absurd hn (by omega)
      · refine wp_aload_n d_Mod_body_8 rfl 1 rfl ?_
        refine wp_aload_n d_Mod_body_9 rfl 1 rfl ?_
        refine wm_get d_Mod_body_10 40 (by decide) wF_Mod_148 rfl ?_
        refine wp_toI (z := (nI (a'))) (hF) ?_
        refine wp_callV (r := 0) d_Mod_body_13 (link_V (as := [.int (nI (a'))]) (rest := []) (r := (R_Mod, T_Mod, 43)) d_Mod_body_13 cal_Mod_isEnd wM_Mod_170 rfl hM_o rfl) cal_Mod_isEnd (c_Mod_isEnd hI hJ (by omega)) (Nat.le_of_ble_eq_true rfl) ⟨Nat.le_of_ble_eq_true rfl, Nat.le_of_ble_eq_true rfl⟩ ?_
        refine wp_if_eqB (tgt := 34) d_Mod_body_16 (by decide) (fun c16 => ?_) (fun c16 => ?_)
        · refine wp_aload_n d_Mod_body_34 rfl 1 rfl ?_
          refine wp_aload_n d_Mod_body_35 rfl 1 rfl ?_
          refine wm_get d_Mod_body_36 40 (by decide) wF_Mod_148 rfl ?_
          refine wp_toI (z := (nI (a'))) (hF) ?_
          refine wp_callV (r := 0) d_Mod_body_39 (link_V (as := [.int (nI (a'))]) (rest := []) (r := (R_Mod, T_Mod, 43)) d_Mod_body_39 cal_Mod_isEnd wM_Mod_170 rfl hM_o rfl) cal_Mod_isEnd (c_Mod_isEnd hI hJ (by omega)) (Nat.le_of_ble_eq_true rfl) ⟨Nat.le_of_ble_eq_true rfl, Nat.le_of_ble_eq_true rfl⟩ ?_
          refine wp_if_eqB (tgt := 73) d_Mod_body_42 (by decide) (fun c42 => ?_) (fun c42 => ?_)
          · exact J73 (by first | exact fun _ => c29 | exact fun q => absurd q (by rw [c16]; decide)) (by first | exact fun _ => c57 | exact fun q => absurd q (by rw [c42]; decide))
          · refine wp_aload_n d_Mod_body_45 rfl 1 rfl ?_
            refine wp_aload_n d_Mod_body_46 rfl 1 rfl ?_
            refine wm_get d_Mod_body_47 40 (by decide) wF_Mod_148 rfl ?_
            refine wp_toI (z := (nI (a'))) (hF) ?_
            refine wp_iconst (v := nI 4) d_Mod_body_50 (by decide) ?_
            refine wp_iaddN d_Mod_body_51 ?_
            refine wp_callV (r := 0) d_Mod_body_52 (link_V (as := [.int (nI (a' + 4))]) (rest := []) (r := (R_Mod, T_Mod, 43)) d_Mod_body_52 cal_Mod_here wM_Mod_151 rfl hM_o rfl) cal_Mod_here (c_Mod_here hI hJ (by omega)) (Nat.le_of_ble_eq_true rfl) ⟨Nat.le_of_ble_eq_true rfl, Nat.le_of_ble_eq_true rfl⟩ ?_
            refine wp_bipush (v := nI 10) d_Mod_body_55 (by decide) ?_
            refine wp_icmp_ne (tgt := 73) d_Mod_body_57 (by decide) (fun c57 => ?_) (fun c57 => ?_)
            · exact J73 (by first | exact fun _ => c29 | exact fun q => absurd q (by rw [c16]; decide)) (by first | exact fun _ => c57 | exact fun q => absurd q (by rw [c42]; decide))
            · refine wp_aload_n d_Mod_body_60 rfl 1 rfl ?_
              refine wp_aload_n d_Mod_body_61 rfl 1 rfl ?_
              refine wm_get d_Mod_body_62 40 (by decide) wF_Mod_148 rfl ?_
              refine wp_toI (z := (nI (a'))) (hF) ?_
              refine wp_iconst (v := nI 4) d_Mod_body_65 (by decide) ?_
              refine wp_iaddN d_Mod_body_66 ?_
              refine wp_bipush (v := nI 8) d_Mod_body_67 (by decide) ?_
              refine wp_callV (r := 0) d_Mod_body_69 (link_V (as := [.int (nI (a' + 4)), .int (nI 8)]) (rest := []) (r := (R_Mod, T_Mod, 43)) d_Mod_body_69 cal_Mod_breaks wM_Mod_155 rfl hM_o rfl) cal_Mod_breaks (c_Mod_breaks (nI (a' + 4)) (nI 8)) (Nat.le_of_ble_eq_true rfl) ⟨Nat.le_of_ble_eq_true rfl, Nat.le_of_ble_eq_true rfl⟩ ?_
              exact wp_zret (ty := .boolean) d_Mod_body_72 rfl rfl ⟨resI (bI_zero (by rw [hp2 c42 (by first | exact c29 | exact absurd c42 (by rw [c16]; decide)) c57]; rfl)), _, rfl, by rw [hp2 c42 (by first | exact c29 | exact absurd c42 (by rw [c16]; decide)) c57]; exact RPg_no hfr⟩
        · refine wp_aload_n d_Mod_body_19 rfl 1 rfl ?_
          refine wm_get d_Mod_body_20 39 (by decide) wF_Mod_142 rfl ?_
          refine wp_toI (z := (nI ln)) (hJ.2.1) ?_
          refine wp_aload_n d_Mod_body_23 rfl 1 rfl ?_
          refine wm_get d_Mod_body_24 40 (by decide) wF_Mod_148 rfl ?_
          refine wp_toI (z := (nI (a'))) (hF) ?_
          refine wp_iconst (v := nI 4) d_Mod_body_27 (by decide) ?_
          refine wp_iaddN d_Mod_body_28 ?_
          refine wp_neN (tgt := 34) d_Mod_body_29 (by decide) (by omega) (by omega) (fun c29 => ?_) (fun c29 => ?_)
          · refine wp_aload_n d_Mod_body_34 rfl 1 rfl ?_
            refine wp_aload_n d_Mod_body_35 rfl 1 rfl ?_
            refine wm_get d_Mod_body_36 40 (by decide) wF_Mod_148 rfl ?_
            refine wp_toI (z := (nI (a'))) (hF) ?_
            refine wp_callV (r := 0) d_Mod_body_39 (link_V (as := [.int (nI (a'))]) (rest := []) (r := (R_Mod, T_Mod, 43)) d_Mod_body_39 cal_Mod_isEnd wM_Mod_170 rfl hM_o rfl) cal_Mod_isEnd (c_Mod_isEnd hI hJ (by omega)) (Nat.le_of_ble_eq_true rfl) ⟨Nat.le_of_ble_eq_true rfl, Nat.le_of_ble_eq_true rfl⟩ ?_
            refine wp_if_eqB (tgt := 73) d_Mod_body_42 (by decide) (fun c42 => ?_) (fun c42 => ?_)
            · exact J73 (by first | exact fun _ => c29 | exact fun q => absurd q (by rw [c16]; decide)) (by first | exact fun _ => c57 | exact fun q => absurd q (by rw [c42]; decide))
            · refine wp_aload_n d_Mod_body_45 rfl 1 rfl ?_
              refine wp_aload_n d_Mod_body_46 rfl 1 rfl ?_
              refine wm_get d_Mod_body_47 40 (by decide) wF_Mod_148 rfl ?_
              refine wp_toI (z := (nI (a'))) (hF) ?_
              refine wp_iconst (v := nI 4) d_Mod_body_50 (by decide) ?_
              refine wp_iaddN d_Mod_body_51 ?_
              refine wp_callV (r := 0) d_Mod_body_52 (link_V (as := [.int (nI (a' + 4))]) (rest := []) (r := (R_Mod, T_Mod, 43)) d_Mod_body_52 cal_Mod_here wM_Mod_151 rfl hM_o rfl) cal_Mod_here (c_Mod_here hI hJ (by omega)) (Nat.le_of_ble_eq_true rfl) ⟨Nat.le_of_ble_eq_true rfl, Nat.le_of_ble_eq_true rfl⟩ ?_
              refine wp_bipush (v := nI 10) d_Mod_body_55 (by decide) ?_
              refine wp_icmp_ne (tgt := 73) d_Mod_body_57 (by decide) (fun c57 => ?_) (fun c57 => ?_)
              · exact J73 (by first | exact fun _ => c29 | exact fun q => absurd q (by rw [c16]; decide)) (by first | exact fun _ => c57 | exact fun q => absurd q (by rw [c42]; decide))
              · refine wp_aload_n d_Mod_body_60 rfl 1 rfl ?_
                refine wp_aload_n d_Mod_body_61 rfl 1 rfl ?_
                refine wm_get d_Mod_body_62 40 (by decide) wF_Mod_148 rfl ?_
                refine wp_toI (z := (nI (a'))) (hF) ?_
                refine wp_iconst (v := nI 4) d_Mod_body_65 (by decide) ?_
                refine wp_iaddN d_Mod_body_66 ?_
                refine wp_bipush (v := nI 8) d_Mod_body_67 (by decide) ?_
                refine wp_callV (r := 0) d_Mod_body_69 (link_V (as := [.int (nI (a' + 4)), .int (nI 8)]) (rest := []) (r := (R_Mod, T_Mod, 43)) d_Mod_body_69 cal_Mod_breaks wM_Mod_155 rfl hM_o rfl) cal_Mod_breaks (c_Mod_breaks (nI (a' + 4)) (nI 8)) (Nat.le_of_ble_eq_true rfl) ⟨Nat.le_of_ble_eq_true rfl, Nat.le_of_ble_eq_true rfl⟩ ?_
                exact wp_zret (ty := .boolean) d_Mod_body_72 rfl rfl ⟨resI (bI_zero (by rw [hp2 c42 (by first | exact c29 | exact absurd c42 (by rw [c16]; decide)) c57]; rfl)), _, rfl, by rw [hp2 c42 (by first | exact c29 | exact absurd c42 (by rw [c16]; decide)) c57]; exact RPg_no hfr⟩
          · refine wp_iconst (v := nI 1) d_Mod_body_32 (by decide) ?_
            exact wp_zret (ty := .boolean) d_Mod_body_33 rfl rfl ⟨resI (bI_one (by rw [hp1 c16 c29]; rfl)), _, rfl, by rw [hp1 c16 c29]; exact ⟨hfr, fun f hf => (by cases hf)⟩⟩
  refine wp_iconst (v := nI 0) d_Mod_body_0 (by decide) ?_
  refine wp_istore_n (lv' := [(1, .int (nI 0)), (0, .ref o)]) d_Mod_body_1 rfl (by decide) rfl ?_
  exact L2 21 0 a Fi (by omega) (by omega) (by omega) ha (fun _ _ _ _ => rfl) rfl
end Mod5
