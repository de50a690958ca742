section Mod8
def VP (res : PR (Nat × List (List Nat))) (m : Nat) (Fi : Nat → Int32) (M : Nat → Nat → Int32) (Ml : Nat → Nat → Int64) (Fi' : Nat → Int32) (M' : Nat → Nat → Int32) (Ml' : Nat → Nat → Int64) : Prop :=
  (∀ j, j ≠ 37 → j ≠ 38 → j ≠ 40 → j ≠ 41 → Fi' j = Fi j) ∧ (∀ a, a ≠ 19 → M' a = M a) ∧ (∀ i, i ≠ m → M' 19 i = M 19 i) ∧ (∀ a, a ≠ 20 → Ml' a = Ml a) ∧ (∀ i, i < 7 * m ∨ 7 * m + 7 ≤ i → Ml' 20 i = Ml 20 i) ∧
  (∀ b as, res = .inl (b, as) → Fi' 40 = nI b ∧ M' 19 m = nI as.length ∧ (∀ k x, as[k]? = some x → Ml' 20 (7 * m + k) = lN (beN x)) ∧ as.length ≤ 7 ∧ 0 < as.length ∧ (∀ x ∈ as, ad8 x)) ∧ ∀ f, res = .inr f → Fi' 37 = nI f.1 ∧ Fi' 38 = nI f.2
set_option maxRecDepth 20000 in
theorem c_Mod_receivers {G : Gt} {o : Nat} {A : Nat → Nat} {Fi : Nat → Int32} {M : Nat → Nat → Int32} {Ml : Nat → Nat → Int64} {t : Nat → Nat} {ln : Nat} (hI : mInj o A) (hJ : Jt t ln Fi M) {m a : Nat} (hm : m ≤ 200) (ha : Fi 40 = nI a) (hab : a < 100) : CallE G m_Mod_receivers 3 40 [.ref o, .int (nI m)] (hM o A Fi M Ml) 0 0 (some (.int (bI (pAddrs (gv t ln) 7 a []).isLeft))) (fun h' => ∃ Fi' M' Ml', h' = hM o A Fi' M' Ml' ∧ VP (pAddrs (gv t ln) 7 a []) m Fi M Ml Fi' M' Ml') := by
  refine CallS.of (Nat.le_of_ble_eq_true rfl) ?_
  have L32 : ∀ (a1 W : Nat) (F : Nat → Int32) (L : Nat → Nat → Int64), (∀ i, i < 8 → a1 + i < 1600) → beT t a1 8 = W → ∀ (f k : Nat), 8 - k < f → k ≤ 8 → WP G m_Mod_receivers (3, 40, 0, 0, (hM o A Fi M Ml), fun r9 h9 => r9 = .inl (some (.int (bI (pAddrs (gv t ln) 7 a []).isLeft))) ∧ (fun h' => ∃ Fi' M' Ml', h' = hM o A Fi' M' Ml' ∧ VP (pAddrs (gv t ln) 7 a []) m Fi M Ml Fi' M' Ml') h9) 63 [(6, .int (nI 8)), (4, .long (lN W)), (3, .int (nI a1)), (2, .int (nI 1)), (0, .ref o), (1, .int (nI m))] [] (hM o A F M L) 0 0 → WP G m_Mod_receivers (3, 40, 0, 0, (hM o A Fi M Ml), fun r9 h9 => r9 = .inl (some (.int (bI (pAddrs (gv t ln) 7 a []).isLeft))) ∧ (fun h' => ∃ Fi' M' Ml', h' = hM o A Fi' M' Ml' ∧ VP (pAddrs (gv t ln) 7 a []) m Fi M Ml Fi' M' Ml') h9) 32 [(6, .int (nI k)), (4, .long (lN (beT t a1 k))), (3, .int (nI a1)), (2, .int (nI 1)), (0, .ref o), (1, .int (nI m))] [] (hM o A F M L) 0 0 := by
    intro a1 W F L hx hW f
    induction f with
    | zero =>
      intro k h1
      omega
    | succ f ih =>
      intro k hf hk KK
      have KK' : ∀ k, k = 8 → WP G m_Mod_receivers (3, 40, 0, 0, (hM o A Fi M Ml), fun r9 h9 => r9 = .inl (some (.int (bI (pAddrs (gv t ln) 7 a []).isLeft))) ∧ (fun h' => ∃ Fi' M' Ml', h' = hM o A Fi' M' Ml' ∧ VP (pAddrs (gv t ln) 7 a []) m Fi M Ml Fi' M' Ml') h9) 63 [(6, .int (nI 8)), (4, .long (lN W)), (3, .int (nI a1)), (2, .int (nI 1)), (0, .ref o), (1, .int (nI m))] [] (hM o A F M L) 0 0 → WP G m_Mod_receivers (3, 40, 0, 0, (hM o A Fi M Ml), fun r9 h9 => r9 = .inl (some (.int (bI (pAddrs (gv t ln) 7 a []).isLeft))) ∧ (fun h' => ∃ Fi' M' Ml', h' = hM o A Fi' M' Ml' ∧ VP (pAddrs (gv t ln) 7 a []) m Fi M Ml Fi' M' Ml') h9) 63 [(6, .int (nI k)), (4, .long (lN (beT t a1 k))), (3, .int (nI a1)), (2, .int (nI 1)), (0, .ref o), (1, .int (nI m))] [] (hM o A F M L) 0 0 := fun k hk h => by subst hk; rw [hW]; exact h
      have ht := hJ.2.2.2 (a1 + k)
      refine wp_iload d_Mod_receivers_32 0 rfl ?_
      refine wp_bipush (v := nI 8) d_Mod_receivers_34 (by decide) ?_
      refine wp_geN (tgt := 63) d_Mod_receivers_36 (by decide) (by omega) (by omega) (fun c36 => ?_) (fun c36 => ?_)
      · exact KK' k (by omega) KK
      · have hbt := beT_le hJ.2.2.2 a1 (k := k) (by omega)
        have hxk := hx k (by omega)
        refine wp_lload d_Mod_receivers_39 1 rfl ?_
        refine wp_bipush (v := nI 8) d_Mod_receivers_41 (by decide) ?_
        refine wp_lshlN d_Mod_receivers_43 (by omega) ?_
        refine wp_aload_n d_Mod_receivers_44 rfl 4 rfl ?_
        refine wm_get d_Mod_receivers_45 5 (by decide) wF_Mod_16 rfl ?_
        refine wp_iload_n d_Mod_receivers_48 rfl 2 rfl ?_
        refine wp_iload d_Mod_receivers_49 0 rfl ?_
        refine wp_iaddN d_Mod_receivers_51 ?_
        refine wm_ild (j := 5) (x := (nI (t (a1 + k)))) d_Mod_receivers_52 hI (by decide) (by decide) (by show _ < 1600; omega) (by decide) (hJ.2.2.1 _ (hx k (by omega))) ?_
        refine wp_i2lN d_Mod_receivers_53 (by omega) ?_
        refine wp_lorN d_Mod_receivers_54 (by omega) (by omega) ?_
        refine wp_toL (z := lN (beT t a1 (k + 1))) (by rw [or_add (by omega)]; rfl) ?_
        refine wp_lstore (lv' := [(4, .long (lN (beT t a1 (k + 1)))), (6, .int (nI k)), (3, .int (nI a1)), (2, .int (nI 1)), (0, .ref o), (1, .int (nI m))]) d_Mod_receivers_55 (by decide) rfl ?_
        refine wp_iinc (lv' := [(6, .int (nI (k + 1))), (4, .long (lN (beT t a1 (k + 1)))), (3, .int (nI a1)), (2, .int (nI 1)), (0, .ref o), (1, .int (nI m))]) d_Mod_receivers_57 1 rfl (nI_1 _) (by decide) rfl ?_
        refine wp_goto (tgt := 32) d_Mod_receivers_60 (by decide) ?_
        exact ih (k + 1) (by omega) (by omega) KK
  have L66 : ∀ (q a1 : Nat) (F : Nat → Int32) (L : Nat → Nat → Int64) (as : List (List Nat)) (x8 : List Nat), as.length = q → q ≤ 6 → F 41 = nI q → (∀ k x, as[k]? = some x → L 20 (7 * m + k) = lN (beN x)) → (∀ x ∈ as, ad8 x) → ad8 x8 → (x8 ∉ as → WP G m_Mod_receivers (3, 40, 0, 0, (hM o A Fi M Ml), fun r9 h9 => r9 = .inl (some (.int (bI (pAddrs (gv t ln) 7 a []).isLeft))) ∧ (fun h' => ∃ Fi' M' Ml', h' = hM o A Fi' M' Ml' ∧ VP (pAddrs (gv t ln) 7 a []) m Fi M Ml Fi' M' Ml') h9) 106 [(6, .int (nI q)), (4, .long (lN (beN x8))), (3, .int (nI a1)), (2, .int (nI 1)), (0, .ref o), (1, .int (nI m))] [] (hM o A F M L) 0 0) → (∀ k, x8 ∈ as → WP G m_Mod_receivers (3, 40, 0, 0, (hM o A Fi M Ml), fun r9 h9 => r9 = .inl (some (.int (bI (pAddrs (gv t ln) 7 a []).isLeft))) ∧ (fun h' => ∃ Fi' M' Ml', h' = hM o A Fi' M' Ml' ∧ VP (pAddrs (gv t ln) 7 a []) m Fi M Ml Fi' M' Ml') h9) 93 [(6, .int (nI k)), (4, .long (lN (beN x8))), (3, .int (nI a1)), (2, .int (nI 1)), (0, .ref o), (1, .int (nI m))] [] (hM o A F M L) 0 0) → ∀ (f k : Nat), q - k < f → k ≤ q → (∀ i x, i < k → as[i]? = some x → x ≠ x8) → WP G m_Mod_receivers (3, 40, 0, 0, (hM o A Fi M Ml), fun r9 h9 => r9 = .inl (some (.int (bI (pAddrs (gv t ln) 7 a []).isLeft))) ∧ (fun h' => ∃ Fi' M' Ml', h' = hM o A Fi' M' Ml' ∧ VP (pAddrs (gv t ln) 7 a []) m Fi M Ml Fi' M' Ml') h9) 66 [(6, .int (nI k)), (4, .long (lN (beN x8))), (3, .int (nI a1)), (2, .int (nI 1)), (0, .ref o), (1, .int (nI m))] [] (hM o A F M L) 0 0 := by
    intro q a1 F L as x8 hq hq6 hF41 has had h8 KK KX f
    induction f with
    | zero =>
      intro k h1
      omega
    | succ f ih =>
      intro k hf hk hne
      have KK' : ∀ k, k = q → WP G m_Mod_receivers (3, 40, 0, 0, (hM o A Fi M Ml), fun r9 h9 => r9 = .inl (some (.int (bI (pAddrs (gv t ln) 7 a []).isLeft))) ∧ (fun h' => ∃ Fi' M' Ml', h' = hM o A Fi' M' Ml' ∧ VP (pAddrs (gv t ln) 7 a []) m Fi M Ml Fi' M' Ml') h9) 106 [(6, .int (nI q)), (4, .long (lN (beN x8))), (3, .int (nI a1)), (2, .int (nI 1)), (0, .ref o), (1, .int (nI m))] [] (hM o A F M L) 0 0 → WP G m_Mod_receivers (3, 40, 0, 0, (hM o A Fi M Ml), fun r9 h9 => r9 = .inl (some (.int (bI (pAddrs (gv t ln) 7 a []).isLeft))) ∧ (fun h' => ∃ Fi' M' Ml', h' = hM o A Fi' M' Ml' ∧ VP (pAddrs (gv t ln) 7 a []) m Fi M Ml Fi' M' Ml') h9) 106 [(6, .int (nI k)), (4, .long (lN (beN x8))), (3, .int (nI a1)), (2, .int (nI 1)), (0, .ref o), (1, .int (nI m))] [] (hM o A F M L) 0 0 := fun k hk h => by subst hk; exact h
      refine wp_iload d_Mod_receivers_66 0 rfl ?_
      refine wp_aload_n d_Mod_receivers_68 rfl 4 rfl ?_
      refine wm_get d_Mod_receivers_69 41 (by decide) wF_Mod_164 rfl ?_
      refine wp_toI (z := (nI q)) (hF41) ?_
      refine wp_geN (tgt := 106) d_Mod_receivers_72 (by decide) (by omega) (by omega) (fun c72 => ?_) (fun c72 => ?_)
      · exact KK' k (by omega) (KK (fun hm8 => by obtain ⟨i, hi, e⟩ := List.mem_iff_getElem.mp hm8; exact hne i _ (by omega) (List.getElem?_eq_getElem hi) e))
      · obtain ⟨xk, hxk⟩ : ∃ x, as[k]? = some x := ⟨_, List.getElem?_eq_getElem (by omega)⟩
        refine wp_aload_n d_Mod_receivers_75 rfl 4 rfl ?_
        refine wm_get d_Mod_receivers_76 20 (by decide) wF_Mod_60 rfl ?_
        refine wp_bipush (v := nI 7) d_Mod_receivers_79 (by decide) ?_
        refine wp_iload_n d_Mod_receivers_81 rfl 5 rfl ?_
        refine wp_imulN d_Mod_receivers_82 ?_
        refine wp_iload d_Mod_receivers_83 0 rfl ?_
        refine wp_iaddN d_Mod_receivers_85 ?_
        refine wm_lld (j := 20) (x := (lN (beN xk))) d_Mod_receivers_86 hI (by decide) (by decide) (by show _ < 1407; omega) (by decide) (has k xk hxk) ?_
        refine wp_lload d_Mod_receivers_87 1 rfl ?_
        refine wp_lcmp d_Mod_receivers_89 ?_
        refine wp_if_neC (tgt := 100) d_Mod_receivers_90 (by decide) (fun c90 => ?_) (fun c90 => ?_)
        · refine wp_iinc (lv' := [(6, .int (nI (k + 1))), (4, .long (lN (beN x8))), (3, .int (nI a1)), (2, .int (nI 1)), (0, .ref o), (1, .int (nI m))]) d_Mod_receivers_100 0 rfl (nI_1 _) (by decide) rfl ?_
          refine wp_goto (tgt := 66) d_Mod_receivers_103 (by decide) ?_
          exact ih (k + 1) (by omega) (by omega) (fun i x hi hx => by
              rcases Nat.lt_or_ge i k with h | h
              · exact hne i x h hx
              · obtain rfl : i = k := by omega
                rw [hxk] at hx
                cases hx
                exact fun e => c90 (by rw [e]))
        · exact KX k (by rw [← (ad8_eq (had xk (List.mem_of_getElem? hxk)) h8).mp c90]; exact List.mem_of_getElem? hxk)
  have VPno : ∀ {f : Nat × Nat} (F : Nat → Int32) (L : Nat → Nat → Int64), (∀ j, j ≠ 37 → j ≠ 38 → j ≠ 40 → j ≠ 41 → F j = Fi j) → (∀ a, a ≠ 20 → L a = Ml a) → (∀ i, i < 7 * m ∨ 7 * m + 7 ≤ i → L 20 i = Ml 20 i) → (F 37 = nI f.1 ∧ F 38 = nI f.2) → VP (.inr f) m Fi M Ml F M L := fun F L h1 h2 h3 h4 => ⟨h1, fun _ _ => rfl, fun _ _ => rfl, h2, h3, fun b as hb => (by cases hb), fun f hf => (by cases hf; exact h4)⟩
  have L7 : ∀ (f q a' : Nat) (F : Nat → Int32) (L : Nat → Nat → Int64) (as : List (List Nat)), 7 - q < f → as.length = q → q ≤ 6 → a' ≤ a + 9 * q → F 40 = nI a' → F 41 = nI q → (∀ j, j ≠ 37 → j ≠ 38 → j ≠ 40 → j ≠ 41 → F j = Fi j) → (∀ a, a ≠ 20 → L a = Ml a) → (∀ i, i < 7 * m ∨ 7 * m + 7 ≤ i → L 20 i = Ml 20 i) → (∀ k x, as[k]? = some x → L 20 (7 * m + k) = lN (beN x)) → (∀ x ∈ as, ad8 x) → pAddrs (gv t ln) 7 a [] = pAddrs (gv t ln) (7 - q) a' as → WP G m_Mod_receivers (3, 40, 0, 0, (hM o A Fi M Ml), fun r9 h9 => r9 = .inl (some (.int (bI (pAddrs (gv t ln) 7 a []).isLeft))) ∧ (fun h' => ∃ Fi' M' Ml', h' = hM o A Fi' M' Ml' ∧ VP (pAddrs (gv t ln) 7 a []) m Fi M Ml Fi' M' Ml') h9) 7 [(2, .int (nI 1)), (0, .ref o), (1, .int (nI m))] [] (hM o A F M L) 0 0 := by
    intro f
    induction f with
    | zero =>
      intro q a' F L as h1
      omega
    | succ f ih =>
      intro q a' F L as hf hq hq6 haa hF hF41 hfr hL hL2 has had hp
      have hJ : Jt t ln F M := ⟨hJ.1, (hfr 39 (by decide) (by decide) (by decide) (by decide)).trans hJ.2.1, hJ.2.2⟩
      have hln := hJ.1
      have hno1 : ∀ x, pLet (gv t ln) 2 8 a' = .inr x → pAddrs (gv t ln) 7 a [] = .inr x := fun x hx => by rw [hp, show 7 - q = (6 - q) + 1 by omega, pAddrs, hx]
      refine wp_iload_n d_Mod_receivers_7 rfl 0 rfl ?_
      refine wp_if_eqN (tgt := 214) d_Mod_receivers_8 (by decide) (by omega) (fun c => absurd c (by decide)) (fun _ => ?_)
      refine wp_aload_n d_Mod_receivers_11 rfl 1 rfl ?_
      refine wm_get d_Mod_receivers_12 40 (by decide) wF_Mod_148 rfl ?_
      refine wp_toI (z := (nI (a'))) (hF) ?_
      refine wp_istore_n (lv' := [(3, .int (nI (a'))), (2, .int (nI 1)), (0, .ref o), (1, .int (nI m))]) d_Mod_receivers_15 rfl (by decide) rfl ?_
      refine wp_aload_n d_Mod_receivers_16 rfl 2 rfl ?_
      refine wp_iconst (v := nI 2) d_Mod_receivers_17 (by decide) ?_
      refine wp_callEV (k' := 0) (n' := 0) (r := 0) d_Mod_receivers_18 (link_V (as := [.int (nI 2)]) (rest := []) (r := (R_Mod, T_Mod, 43)) d_Mod_receivers_18 cal_Mod_letters wM_Mod_167 rfl hM_o rfl) cal_Mod_letters (c_Mod_letters (a := a') hI hJ hF (by omega)) (Nat.le_of_ble_eq_true rfl) ⟨Nat.le_of_ble_eq_true rfl, Nat.le_of_ble_eq_true rfl⟩ (fun h' q18 => ?_)
      obtain ⟨F1, rfl, hF1⟩ := q18
      refine wp_if_neB (tgt := 26) d_Mod_receivers_21 (by decide) (fun c21 => ?_) (fun c21 => ?_)
      · obtain ⟨b1, hb1⟩ : ∃ b, pLet (gv t ln) 2 8 a' = .inl b := by
          cases hc : pLet (gv t ln) 2 8 a' with
          | inl b => exact ⟨b, rfl⟩
          | inr x => rw [hc] at c21; cases c21
        obtain ⟨rfl, hlet⟩ := pLet_inl hb1
        have hF40 := hF1.2.1 _ hb1
        have hF41 : F1 41 = nI q := (hF1.1 41 (by decide) (by decide) (by decide)).trans hF41
        have hJ1 : Jt t ln F1 M := ⟨hJ.1, (hF1.1 39 (by decide) (by decide) (by decide)).trans hJ.2.1, hJ.2.2⟩
        have e32 : gI t ln (a' + 8) = nI 32 ↔ gv t ln (a' + 8) = 32 := gI_eq hJ.2.2.2 ln _ (by decide)
        have e10 : gI t ln (a' + 8) = nI 10 ↔ gv t ln (a' + 8) = 10 := gI_eq hJ.2.2.2 ln _ (by decide)
        have hno3 : eight (gv t ln) a' ∈ as → pAddrs (gv t ln) 7 a [] = .inr (a', 3) := fun h => by rw [hp, show 7 - q = (6 - q) + 1 by omega, pAddrs, hb1]; simp [h]
        have hno2 : eight (gv t ln) a' ∉ as → ¬ gv t ln (a' + 8) = 32 → ¬ gv t ln (a' + 8) = 10 → pAddrs (gv t ln) 7 a [] = .inr (a' + 8, 2) := fun h h1 h2 => by rw [hp, show 7 - q = (6 - q) + 1 by omega, pAddrs, hb1]; simp [h, h1, h2]
        have hok : eight (gv t ln) a' ∉ as → gv t ln (a' + 8) = 10 → pAddrs (gv t ln) 7 a [] = .inl (a' + 8 + 1, as ++ [eight (gv t ln) a']) := fun h h1 => by rw [hp, show 7 - q = (6 - q) + 1 by omega, pAddrs, hb1]; simp [h, h1]
        have hno4 : eight (gv t ln) a' ∉ as → gv t ln (a' + 8) = 32 → q = 6 → pAddrs (gv t ln) 7 a [] = .inr (a' + 8, 4) := fun h h1 h2 => by rw [hp, show 7 - q = 0 + 1 by omega, pAddrs, hb1]; simp [h, h1]
        have hgo : eight (gv t ln) a' ∉ as → gv t ln (a' + 8) = 32 → q < 6 → pAddrs (gv t ln) 7 a [] = pAddrs (gv t ln) (7 - (q + 1)) (a' + 8 + 1) (as ++ [eight (gv t ln) a']) := fun h h1 h2 => by rw [hp, show 7 - q = ((5 - q) + 1) + 1 by omega, pAddrs, hb1, show 7 - (q + 1) = (5 - q) + 1 by omega]; simp [h, h1]
        refine wp_lconst (v := lN 0) d_Mod_receivers_26 (by decide) ?_
        refine wp_lstore (lv' := [(4, .long (lN 0)), (3, .int (nI (a'))), (2, .int (nI 1)), (0, .ref o), (1, .int (nI m))]) d_Mod_receivers_27 (by decide) rfl ?_
        refine wp_iconst (v := nI 0) d_Mod_receivers_29 (by decide) ?_
        refine wp_istore (lv' := [(6, .int (nI 0)), (4, .long (lN 0)), (3, .int (nI (a'))), (2, .int (nI 1)), (0, .ref o), (1, .int (nI m))]) d_Mod_receivers_30 (by decide) rfl ?_
        refine L32 a' (beN (eight (gv t ln) a')) F1 L (fun i hi => by have := (let_lt (hlet i hi)).1; omega) (beN_eight hlet).symm 9 0 (by omega) (by omega) ?_
        refine wp_iconst (v := nI 0) d_Mod_receivers_63 (by decide) ?_
        refine wp_istore (lv' := [(6, .int (nI 0)), (4, .long (lN (beN (eight (gv t ln) a')))), (3, .int (nI (a'))), (2, .int (nI 1)), (0, .ref o), (1, .int (nI m))]) d_Mod_receivers_64 (by decide) rfl ?_
        refine L66 q a' F1 L as (eight (gv t ln) a') hq hq6 hF41 has had (eight_ad hlet) (fun hnm => ?_) (fun k hm8 => ?_) 7 0 (by omega) (by omega) (fun i x hi => absurd hi (by omega))
        · refine wp_aload_n d_Mod_receivers_106 rfl 4 rfl ?_
          refine wm_get d_Mod_receivers_107 20 (by decide) wF_Mod_60 rfl ?_
          refine wp_bipush (v := nI 7) d_Mod_receivers_110 (by decide) ?_
          refine wp_iload_n d_Mod_receivers_112 rfl 5 rfl ?_
          refine wp_imulN d_Mod_receivers_113 ?_
          refine wp_aload_n d_Mod_receivers_114 rfl 4 rfl ?_
          refine wm_get d_Mod_receivers_115 41 (by decide) wF_Mod_164 rfl ?_
          refine wp_toI (z := (nI q)) (hF41) ?_
          refine wp_iaddN d_Mod_receivers_118 ?_
          refine wp_lload d_Mod_receivers_119 1 rfl ?_
          refine wm_lst (j := 20) d_Mod_receivers_121 hI (by decide) (by decide) (by show _ < 1407; omega) (by decide) ?_
          have hLa : ∀ a, a ≠ 20 → u2l L 20 (7 * m + q) (lN (beN (eight (gv t ln) a'))) a = Ml a := fun a ha => (u2l_ne _ _ ha).trans (hL a ha)
          have hLb : ∀ i, i < 7 * m ∨ 7 * m + 7 ≤ i → u2l L 20 (7 * m + q) (lN (beN (eight (gv t ln) a'))) 20 i = Ml 20 i := fun i hi => by rw [u2l_at, if_neg (by omega)]; exact hL2 i hi
          have has1 : ∀ k x, (as ++ [eight (gv t ln) a'])[k]? = some x → u2l L 20 (7 * m + q) (lN (beN (eight (gv t ln) a'))) 20 (7 * m + k) = lN (beN x) := fun k x hx => by
            rcases Nat.lt_or_ge k q with h | h
            · rw [u2l_at, if_neg (by omega)]
              exact has k x (by rwa [List.getElem?_append_left (by omega)] at hx)
            · have hlt := (List.getElem?_eq_some_iff.mp hx).1
              rw [List.length_append, List.length_singleton] at hlt
              obtain rfl : k = q := by omega
              rw [List.getElem?_append_right (by omega), hq, Nat.sub_self] at hx
              cases hx
              rw [u2l_at, if_pos rfl]
          have had1 : ∀ x ∈ as ++ [eight (gv t ln) a'], ad8 x := fun x hx => by
            rcases List.mem_append.mp hx with h | h
            · exact had x h
            · rw [List.mem_singleton.mp h]; exact eight_ad hlet
          refine wp_aload_n d_Mod_receivers_122 rfl 4 rfl ?_
          refine wp_dup d_Mod_receivers_123 rfl ?_
          refine wm_get d_Mod_receivers_124 41 (by decide) wF_Mod_164 rfl ?_
          refine wp_toI (z := (nI q)) (hF41) ?_
          refine wp_iconst (v := nI 1) d_Mod_receivers_127 (by decide) ?_
          refine wp_iaddN d_Mod_receivers_128 ?_
          refine wm_put (Fi' := va_up F1 41 (nI (q + 1))) d_Mod_receivers_129 41 (by decide) wF_Mod_164 rfl (by decide) rfl ?_
          have hJ : Jt t ln (va_up F1 41 (nI (q + 1))) M := ⟨hJ.1, hJ1.2.1, hJ.2.2⟩
          refine wp_aload_n d_Mod_receivers_132 rfl 4 rfl ?_
          refine wp_aload_n d_Mod_receivers_133 rfl 4 rfl ?_
          refine wm_get d_Mod_receivers_134 40 (by decide) wF_Mod_148 rfl ?_
          refine wp_toI (z := (nI (a' + 8))) (hF40) ?_
          refine wp_callV (r := 0) d_Mod_receivers_137 (link_V (as := [.int (nI (a' + 8))]) (rest := []) (r := (R_Mod, T_Mod, 43)) d_Mod_receivers_137 cal_Mod_here wM_Mod_151 rfl hM_o rfl) cal_Mod_here (c_Mod_here hI hJ (by omega)) (Nat.le_of_ble_eq_true rfl) ⟨Nat.le_of_ble_eq_true rfl, Nat.le_of_ble_eq_true rfl⟩ ?_
          refine wp_bipush (v := nI 32) d_Mod_receivers_140 (by decide) ?_
          refine wp_icmp_ne (tgt := 149) d_Mod_receivers_142 (by decide) (fun c142 => ?_) (fun c142 => ?_)
          · refine wp_iconst (v := nI 0) d_Mod_receivers_149 (by decide) ?_
            refine wp_istore_n (lv' := [(2, .int (nI 0)), (6, .int (nI q)), (4, .long (lN (beN (eight (gv t ln) a')))), (3, .int (nI (a'))), (0, .ref o), (1, .int (nI m))]) d_Mod_receivers_150 rfl (by decide) rfl ?_
            refine wp_iload_n d_Mod_receivers_151 rfl 0 rfl ?_
            refine wp_if_eqN (tgt := 174) d_Mod_receivers_152 (by decide) (by omega) (fun _ => ?_) (fun c => absurd c (by decide))
            refine wp_iload_n d_Mod_receivers_174 rfl 0 rfl ?_
            refine wp_if_neN (tgt := 201) d_Mod_receivers_175 (by decide) (by omega) (fun c => absurd c (by decide)) (fun _ => ?_)
            refine wp_aload_n d_Mod_receivers_178 rfl 4 rfl ?_
            refine wp_aload_n d_Mod_receivers_179 rfl 4 rfl ?_
            refine wm_get d_Mod_receivers_180 40 (by decide) wF_Mod_148 rfl ?_
            refine wp_toI (z := (nI (a' + 8))) (hF40) ?_
            refine wp_callV (r := 0) d_Mod_receivers_183 (link_V (as := [.int (nI (a' + 8))]) (rest := []) (r := (R_Mod, T_Mod, 43)) d_Mod_receivers_183 cal_Mod_here wM_Mod_151 rfl hM_o rfl) cal_Mod_here (c_Mod_here hI hJ (by omega)) (Nat.le_of_ble_eq_true rfl) ⟨Nat.le_of_ble_eq_true rfl, Nat.le_of_ble_eq_true rfl⟩ ?_
            refine wp_bipush (v := nI 10) d_Mod_receivers_186 (by decide) ?_
            refine wp_icmp_eq (tgt := 201) d_Mod_receivers_188 (by decide) (fun c188 => ?_) (fun c188 => ?_)
            · refine wp_aload_n d_Mod_receivers_201 rfl 4 rfl ?_
              refine wp_dup d_Mod_receivers_202 rfl ?_
              refine wm_get d_Mod_receivers_203 40 (by decide) wF_Mod_148 rfl ?_
              refine wp_toI (z := (nI (a' + 8))) (hF40) ?_
              refine wp_iconst (v := nI 1) d_Mod_receivers_206 (by decide) ?_
              refine wp_iaddN d_Mod_receivers_207 ?_
              refine wm_put (Fi' := va_up (va_up F1 41 (nI (q + 1))) 40 (nI ((a' + 8) + 1))) d_Mod_receivers_208 40 (by decide) wF_Mod_148 rfl (by decide) rfl ?_
              refine wp_goto (tgt := 7) d_Mod_receivers_211 (by decide) ?_
              refine wp_iload_n d_Mod_receivers_7 rfl 0 rfl ?_
              refine wp_if_eqN (tgt := 214) d_Mod_receivers_8 (by decide) (by omega) (fun _ => ?_) (fun c => absurd c (by decide))
              have hg10 : gv t ln (a' + 8) = 10 := by rw [← e10]; exact c188
              have hlast : VP (.inl (a' + 8 + 1, as ++ [eight (gv t ln) a'])) m Fi M Ml (va_up (va_up F1 41 (nI (q + 1))) 40 (nI (a' + 8 + 1))) (u2 M 19 m (nI (q + 1))) (u2l L 20 (7 * m + q) (lN (beN (eight (gv t ln) a')))) := by
                refine ⟨fun j h1 h2 h3 h4 => by simp [va_up, h3, h4, hF1.1 j h1 h2 h3, hfr j h1 h2 h3 h4], fun a ha => u2_ne _ _ ha, fun i hi => by rw [u2_at, if_neg hi], hLa, hLb, fun b as2 hb => ?_, fun f hf => (by cases hf)⟩
                cases hb
                exact ⟨by simp [va_up], by rw [u2_at, if_pos rfl, List.length_append, List.length_singleton, hq], has1, by rw [List.length_append, List.length_singleton]; omega, by rw [List.length_append, List.length_singleton]; omega, had1⟩
              refine wp_aload_n d_Mod_receivers_214 rfl 4 rfl ?_
              refine wm_get d_Mod_receivers_215 19 (by decide) wF_Mod_57 rfl ?_
              refine wp_iload_n d_Mod_receivers_218 rfl 5 rfl ?_
              refine wp_aload_n d_Mod_receivers_219 rfl 4 rfl ?_
              refine wm_get d_Mod_receivers_220 41 (by decide) wF_Mod_164 rfl ?_
              refine wp_toI (z := (nI (q + 1))) (rfl) ?_
              refine wm_ist (j := 19) d_Mod_receivers_223 hI (by decide) (by decide) (by show _ < 201; omega) (by decide) ?_
              refine wp_iconst (v := nI 1) d_Mod_receivers_224 (by decide) ?_
              exact wp_zret (ty := .boolean) d_Mod_receivers_225 rfl rfl ⟨resI (bI_one (by rw [hok hnm hg10]; rfl)), _, _, _, rfl, by rw [hok hnm hg10]; exact hlast⟩
            · refine wp_aload_n d_Mod_receivers_191 rfl 4 rfl ?_
              refine wp_aload_n d_Mod_receivers_192 rfl 4 rfl ?_
              refine wm_get d_Mod_receivers_193 40 (by decide) wF_Mod_148 rfl ?_
              refine wp_toI (z := (nI (a' + 8))) (hF40) ?_
              refine wp_iconst (v := nI 2) d_Mod_receivers_196 (by decide) ?_
              refine wp_callV (r := 0) d_Mod_receivers_197 (link_V (as := [.int (nI (a' + 8)), .int (nI 2)]) (rest := []) (r := (R_Mod, T_Mod, 43)) d_Mod_receivers_197 cal_Mod_breaks wM_Mod_155 rfl hM_o rfl) cal_Mod_breaks (c_Mod_breaks (nI (a' + 8)) (nI 2)) (Nat.le_of_ble_eq_true rfl) ⟨Nat.le_of_ble_eq_true rfl, Nat.le_of_ble_eq_true rfl⟩ ?_
              exact wp_zret (ty := .boolean) d_Mod_receivers_200 rfl rfl ⟨resI (bI_zero (by rw [hno2 hnm (by rw [← e32]; exact c142) (by rw [← e10]; exact c188)]; rfl)), _, _, _, rfl, by rw [hno2 hnm (by rw [← e32]; exact c142) (by rw [← e10]; exact c188)]; exact VPno _ _ (fun j h1 h2 h3 h4 => by simp [va_up, h1, h2, h3, h4, hF1.1 j h1 h2 h3, hfr j h1 h2 h3 h4]) hLa hLb ⟨by simp [va_up], by simp [va_up]⟩⟩
          · refine wp_iconst (v := nI 1) d_Mod_receivers_145 (by decide) ?_
            refine wp_goto (tgt := 150) d_Mod_receivers_146 (by decide) ?_
            refine wp_istore_n (lv' := [(2, .int (nI 1)), (6, .int (nI q)), (4, .long (lN (beN (eight (gv t ln) a')))), (3, .int (nI (a'))), (0, .ref o), (1, .int (nI m))]) d_Mod_receivers_150 rfl (by decide) rfl ?_
            refine wp_iload_n d_Mod_receivers_151 rfl 0 rfl ?_
            refine wp_if_eqN (tgt := 174) d_Mod_receivers_152 (by decide) (by omega) (fun c => absurd c (by decide)) (fun _ => ?_)
            refine wp_aload_n d_Mod_receivers_155 rfl 4 rfl ?_
            refine wm_get d_Mod_receivers_156 41 (by decide) wF_Mod_164 rfl ?_
            refine wp_toI (z := (nI (q + 1))) (rfl) ?_
            refine wp_bipush (v := nI 7) d_Mod_receivers_159 (by decide) ?_
            refine wp_neN (tgt := 174) d_Mod_receivers_161 (by decide) (by omega) (by omega) (fun c161 => ?_) (fun c161 => ?_)
            · refine wp_iload_n d_Mod_receivers_174 rfl 0 rfl ?_
              refine wp_if_neN (tgt := 201) d_Mod_receivers_175 (by decide) (by omega) (fun _ => ?_) (fun c => absurd c (by decide))
              refine wp_aload_n d_Mod_receivers_201 rfl 4 rfl ?_
              refine wp_dup d_Mod_receivers_202 rfl ?_
              refine wm_get d_Mod_receivers_203 40 (by decide) wF_Mod_148 rfl ?_
              refine wp_toI (z := (nI (a' + 8))) (hF40) ?_
              refine wp_iconst (v := nI 1) d_Mod_receivers_206 (by decide) ?_
              refine wp_iaddN d_Mod_receivers_207 ?_
              refine wm_put (Fi' := va_up (va_up F1 41 (nI (q + 1))) 40 (nI ((a' + 8) + 1))) d_Mod_receivers_208 40 (by decide) wF_Mod_148 rfl (by decide) rfl ?_
              refine wp_goto (tgt := 7) d_Mod_receivers_211 (by decide) ?_
              refine wp_lv [0, 4, 5] rfl ?_
              exact ih (q + 1) _ _ _ _ (by omega) (by simp [hq]) (by omega) (by omega) (by simp [va_up]) (by simp [va_up]) (fun j h1 h2 h3 h4 => by simp [va_up, h3, h4, hF1.1 j h1 h2 h3, hfr j h1 h2 h3 h4]) hLa hLb has1 had1 (hgo hnm (by rw [← e32]; exact c142) (by omega))
            · have hg32 : gv t ln (a' + 8) = 32 := by rw [← e32]; exact c142
              refine wp_aload_n d_Mod_receivers_164 rfl 4 rfl ?_
              refine wp_aload_n d_Mod_receivers_165 rfl 4 rfl ?_
              refine wm_get d_Mod_receivers_166 40 (by decide) wF_Mod_148 rfl ?_
              refine wp_toI (z := (nI (a' + 8))) (hF40) ?_
              refine wp_iconst (v := nI 4) d_Mod_receivers_169 (by decide) ?_
              refine wp_callV (r := 0) d_Mod_receivers_170 (link_V (as := [.int (nI (a' + 8)), .int (nI 4)]) (rest := []) (r := (R_Mod, T_Mod, 43)) d_Mod_receivers_170 cal_Mod_breaks wM_Mod_155 rfl hM_o rfl) cal_Mod_breaks (c_Mod_breaks (nI (a' + 8)) (nI 4)) (Nat.le_of_ble_eq_true rfl) ⟨Nat.le_of_ble_eq_true rfl, Nat.le_of_ble_eq_true rfl⟩ ?_
              exact wp_zret (ty := .boolean) d_Mod_receivers_173 rfl rfl ⟨resI (bI_zero (by rw [hno4 hnm hg32 (by omega)]; rfl)), _, _, _, rfl, by rw [hno4 hnm hg32 (by omega)]; exact VPno _ _ (fun j h1 h2 h3 h4 => by simp [va_up, h1, h2, h3, h4, hF1.1 j h1 h2 h3, hfr j h1 h2 h3 h4]) hLa hLb ⟨by simp [va_up], by simp [va_up]⟩⟩
        · refine wp_aload_n d_Mod_receivers_93 rfl 4 rfl ?_
          refine wp_iload_n d_Mod_receivers_94 rfl 2 rfl ?_
          refine wp_iconst (v := nI 3) d_Mod_receivers_95 (by decide) ?_
          refine wp_callV (r := 0) d_Mod_receivers_96 (link_V (as := [.int (nI (a')), .int (nI 3)]) (rest := []) (r := (R_Mod, T_Mod, 43)) d_Mod_receivers_96 cal_Mod_breaks wM_Mod_155 rfl hM_o rfl) cal_Mod_breaks (c_Mod_breaks (nI (a')) (nI 3)) (Nat.le_of_ble_eq_true rfl) ⟨Nat.le_of_ble_eq_true rfl, Nat.le_of_ble_eq_true rfl⟩ ?_
          exact wp_zret (ty := .boolean) d_Mod_receivers_99 rfl rfl ⟨resI (bI_zero (by rw [hno3 hm8]; rfl)), _, _, _, rfl, by rw [hno3 hm8]; exact VPno _ _ (fun j h1 h2 h3 h4 => by simp [va_up, h1, h2, h3, h4, hF1.1 j h1 h2 h3, hfr j h1 h2 h3 h4]) hL hL2 ⟨by simp [va_up], by simp [va_up]⟩⟩
      · obtain ⟨x, hx⟩ : ∃ x, pLet (gv t ln) 2 8 a' = .inr x := by
          cases hc : pLet (gv t ln) 2 8 a' with
          | inl b => rw [hc] at c21; cases c21
          | inr x => exact ⟨x, rfl⟩
        refine wp_iconst (v := nI 0) d_Mod_receivers_24 (by decide) ?_
        exact wp_zret (ty := .boolean) d_Mod_receivers_25 rfl rfl ⟨resI (bI_zero (by rw [hno1 x hx]; rfl)), _, _, _, rfl, by rw [hno1 x hx]; exact VPno _ _ (fun j h1 h2 h3 h4 => (hF1.1 j h1 h2 h3).trans (hfr j h1 h2 h3 h4)) hL hL2 (hF1.2.2 _ hx)⟩
  refine wp_aload_n d_Mod_receivers_0 rfl 0 rfl ?_
  refine wp_iconst (v := nI 0) d_Mod_receivers_1 (by decide) ?_
  refine wm_put (Fi' := va_up Fi 41 (nI 0)) d_Mod_receivers_2 41 (by decide) wF_Mod_164 rfl (by decide) rfl ?_
  refine wp_iconst (v := nI 1) d_Mod_receivers_5 (by decide) ?_
  refine wp_istore_n (lv' := [(2, .int (nI 1)), (0, .ref o), (1, .int (nI m))]) d_Mod_receivers_6 rfl (by decide) rfl ?_
  exact L7 8 0 a _ Ml [] (by omega) rfl (by omega) (by omega) (by simp [va_up]; exact ha) (by simp [va_up]) (fun j h1 h2 h3 h4 => by simp [va_up, h4]) (fun _ _ => rfl) (fun _ _ => rfl) (fun k x hx => by simp at hx) (fun x hx => by simp at hx) rfl
end Mod8
