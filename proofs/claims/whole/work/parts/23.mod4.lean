section Mod4
set_option maxRecDepth 20000 in
theorem c_Mod_letters {G : Gt} {o : Nat} {A : Nat → Nat} {Fi : Nat → Int32} {M : Nat → Nat → Int32} {Ml : Nat → Nat → Int64} {t : Nat → Nat} {ln : Nat} (hI : mInj o A) (hJ : Jt t ln Fi M) {a r : Nat} (ha : Fi 40 = nI a) (hab : a < 2 ^ 30) : CallE G m_Mod_letters 2 26 [.ref o, .int (nI r)] (hM o A Fi M Ml) 0 0 (some (.int (bI (pLet (gv t ln) r 8 a).isLeft))) (fun h' => ∃ Fi', h' = hM o A Fi' M Ml ∧ RP (pLet (gv t ln) r 8 a) Fi Fi') := by
  refine CallS.of (Nat.le_of_ble_eq_true rfl) ?_
  have L2 : ∀ (f k : Nat) (F : Nat → Int32), 8 - k < f → k ≤ 8 → F 40 = nI (a + k) → (∀ j, j ≠ 37 → j ≠ 38 → j ≠ 40 → F j = Fi j) → pLet (gv t ln) r 8 a = pLet (gv t ln) r (8 - k) (a + k) → WP G m_Mod_letters (2, 26, 0, 0, (hM o A Fi M Ml), fun r9 h9 => r9 = .inl (some (.int (bI (pLet (gv t ln) r 8 a).isLeft))) ∧ (fun h' => ∃ Fi', h' = hM o A Fi' M Ml ∧ RP (pLet (gv t ln) r 8 a) Fi Fi') h9) 2 [(2, .int (nI k)), (0, .ref o), (1, .int (nI r))] [] (hM o A F M Ml) 0 0 := by
    intro f
    induction f with
    | zero =>
      intro k F h1
      omega
    | succ f ih =>
      intro k F hf hk hF hfr hp
      have hJ : Jt t ln F M := ⟨hJ.1, (hfr 39 (by decide) (by decide) (by decide)).trans hJ.2.1, hJ.2.2⟩
      have hend : 8 ≤ k → pLet (gv t ln) r 8 a = .inl (a + 8) := fun h => by rw [hp, show 8 - k = 0 by omega, pLet, show a + k = a + 8 by omega]
      have hno : isLet (gv t ln (a + k)) = false → k < 8 → pLet (gv t ln) r 8 a = .inr (a + k, r) := fun h h8 => by rw [hp, show 8 - k = (7 - k) + 1 by omega, pLet, h]; rfl
      refine wp_iload_n d_Mod_letters_2 rfl 0 rfl ?_
      refine wp_bipush (v := nI 8) d_Mod_letters_3 (by decide) ?_
      refine wp_geN (tgt := 48) d_Mod_letters_5 (by decide) (by omega) (by omega) (fun c5 => ?_) (fun c5 => ?_)
      · refine wp_iconst (v := nI 1) d_Mod_letters_48 (by decide) ?_
        exact wp_zret (ty := .boolean) d_Mod_letters_49 rfl rfl ⟨resI (bI_one (by rw [hend (by omega)]; rfl)), _, rfl, by rw [hend (by omega)]; exact ⟨hfr, fun b hb => by cases hb; rw [hF, show a + k = a + 8 by omega], fun f hf => (by cases hf)⟩⟩
      · refine wp_aload_n d_Mod_letters_8 rfl 1 rfl ?_
        refine wp_aload_n d_Mod_letters_9 rfl 1 rfl ?_
        refine wm_get d_Mod_letters_10 40 (by decide) wF_Mod_148 rfl ?_
        refine wp_toI (z := (nI (a + k))) (hF) ?_
        refine wp_callV (r := 0) d_Mod_letters_13 (link_V (as := [.int (nI (a + k))]) (rest := []) (r := (R_Mod, T_Mod, 43)) d_Mod_letters_13 cal_Mod_here wM_Mod_151 rfl hM_o rfl) cal_Mod_here (c_Mod_here hI hJ (by omega)) (Nat.le_of_ble_eq_true rfl) ⟨Nat.le_of_ble_eq_true rfl, Nat.le_of_ble_eq_true rfl⟩ ?_
        refine wp_callV (r := 0) d_Mod_letters_16 (link_S (av := [.int (gI t ln (a + k))]) (rest := []) d_Mod_letters_16 cal_Mod_isLetter wM_Mod_130 rfl) cal_Mod_isLetter (c_Mod_isLetterG hJ.2.2.2 _ _) (Nat.le_of_ble_eq_true rfl) ⟨Nat.le_of_ble_eq_true rfl, Nat.le_of_ble_eq_true rfl⟩ ?_
        refine wp_if_neB (tgt := 32) d_Mod_letters_19 (by decide) (fun c19 => ?_) (fun c19 => ?_)
        · refine wp_aload_n d_Mod_letters_32 rfl 1 rfl ?_
          refine wp_dup d_Mod_letters_33 rfl ?_
          refine wm_get d_Mod_letters_34 40 (by decide) wF_Mod_148 rfl ?_
          refine wp_toI (z := (nI (a + k))) (hF) ?_
          refine wp_iconst (v := nI 1) d_Mod_letters_37 (by decide) ?_
          refine wp_iaddN d_Mod_letters_38 ?_
          refine wm_put (Fi' := va_up F 40 (nI ((a + k) + 1))) d_Mod_letters_39 40 (by decide) wF_Mod_148 rfl (by decide) rfl ?_
          refine wp_iinc (lv' := [(2, .int (nI (k + 1))), (0, .ref o), (1, .int (nI r))]) d_Mod_letters_42 0 rfl (nI_1 _) (by decide) rfl ?_
          refine wp_goto (tgt := 2) d_Mod_letters_45 (by decide) ?_
          exact ih (k + 1) _ (by omega) (by omega) (by simp [va_up, Nat.add_assoc]) (fun j h1 h2 h3 => by simp [va_up, h3, hfr j h1 h2 h3]) (by rw [hp, show 8 - k = (8 - (k + 1)) + 1 by omega, pLet, if_pos c19]; rfl)
        · refine wp_aload_n d_Mod_letters_22 rfl 1 rfl ?_
          refine wp_aload_n d_Mod_letters_23 rfl 1 rfl ?_
          refine wm_get d_Mod_letters_24 40 (by decide) wF_Mod_148 rfl ?_
          refine wp_toI (z := (nI (a + k))) (hF) ?_
          refine wp_iload_n d_Mod_letters_27 rfl 2 rfl ?_
          refine wp_callV (r := 0) d_Mod_letters_28 (link_V (as := [.int (nI (a + k)), .int (nI r)]) (rest := []) (r := (R_Mod, T_Mod, 43)) d_Mod_letters_28 cal_Mod_breaks wM_Mod_155 rfl hM_o rfl) cal_Mod_breaks (c_Mod_breaks (nI (a + k)) (nI r)) (Nat.le_of_ble_eq_true rfl) ⟨Nat.le_of_ble_eq_true rfl, Nat.le_of_ble_eq_true rfl⟩ ?_
          exact wp_zret (ty := .boolean) d_Mod_letters_31 rfl rfl ⟨resI (bI_zero (by rw [hno c19 c5]; rfl)), _, rfl, by rw [hno c19 c5]; exact RP.trans hfr RP_no⟩
  refine wp_iconst (v := nI 0) d_Mod_letters_0 (by decide) ?_
  refine wp_istore_n (lv' := [(2, .int (nI 0)), (0, .ref o), (1, .int (nI r))]) d_Mod_letters_1 rfl (by decide) rfl ?_
  exact L2 9 0 Fi (by omega) (by omega) ha (fun _ _ _ _ => rfl) rfl
end Mod4
