section Mod6
def HP (res : PR (Nat × Nat)) (m : Nat) (Fi : Nat → Int32) (M : Nat → Nat → Int32) (Fi' : Nat → Int32) (M' : Nat → Nat → Int32) : Prop :=
  (∀ j, j ≠ 37 → j ≠ 38 → j ≠ 40 → Fi' j = Fi j) ∧ (∀ a, a ≠ 18 → M' a = M a) ∧ (∀ i, i ≠ m → M' 18 i = M 18 i) ∧ (∀ p b, res = .inl (p, b) → M' 18 m = nI p ∧ Fi' 40 = nI b) ∧ ∀ f, res = .inr f → Fi' 37 = nI f.1 ∧ Fi' 38 = nI f.2
theorem HP_no {m a r : Nat} {Fi : Nat → Int32} {M : Nat → Nat → Int32} : HP (.inr (a, r)) m Fi M (va_up (va_up Fi 37 (nI a)) 38 (nI r)) M := by
  refine ⟨fun j h1 h2 h3 => by simp [va_up, h1, h2], fun _ _ => rfl, fun _ _ => rfl, fun p b hb => (by cases hb), fun f hf => ?_⟩
  cases hf
  exact ⟨by simp [va_up], by simp [va_up]⟩
theorem gv_one {t : Nat → Nat} {ln : Nat} (h : gv t ln 0 ≠ -1) : ln = 1 ↔ gv t ln 1 = -1 := by
  unfold gv at *
  split at h
  · split <;> omega
  · exact absurd rfl h
theorem rank_ne {x : Int} {p : Nat} (h : rankOf x = some p) : x ≠ -1 ∧ p < 5 := by
  unfold rankOf at h
  grind
set_option maxRecDepth 20000 in
theorem c_Mod_head0 {G : Gt} {o : Nat} {A : Nat → Nat} {Fi : Nat → Int32} {M : Nat → Nat → Int32} {Ml : Nat → Nat → Int64} {t : Nat → Nat} {ln : Nat} (hI : mInj o A) (hJ : Jt t ln Fi M) {m : Nat} (hm : m ≤ 200) (hr : rankOf (gv t ln 0) = none) : CallE G m_Mod_head 1 14 [.ref o, .int (nI m)] (hM o A Fi M Ml) 0 0 (some (.int (bI (pHead (gv t ln)).isLeft))) (fun h' => ∃ Fi' M', h' = hM o A Fi' M' Ml ∧ HP (pHead (gv t ln)) m Fi M Fi' M') := by
  have hn0 : pHead (gv t ln) = .inr (0, 1) := by unfold pHead; rw [hr]
  refine CallS.of (Nat.le_of_ble_eq_true rfl) ?_
  refine wp_aload_n d_Mod_head_0 rfl 0 rfl ?_
  refine wp_iconst (v := nI 0) d_Mod_head_1 (by decide) ?_
  refine wp_callV (r := 0) d_Mod_head_2 (link_V (as := [.int (nI 0)]) (rest := []) (r := (R_Mod, T_Mod, 43)) d_Mod_head_2 cal_Mod_here wM_Mod_151 rfl hM_o rfl) cal_Mod_here (c_Mod_here hI hJ (by omega)) (Nat.le_of_ble_eq_true rfl) ⟨Nat.le_of_ble_eq_true rfl, Nat.le_of_ble_eq_true rfl⟩ ?_
  refine wp_callV (r := 0) d_Mod_head_5 (link_S (av := [.int (gI t ln 0)]) (rest := []) d_Mod_head_5 cal_Mod_rank wM_Mod_158 rfl) cal_Mod_rank (c_Mod_rank hJ.2.2.2 _ _) (Nat.le_of_ble_eq_true rfl) ⟨Nat.le_of_ble_eq_true rfl, Nat.le_of_ble_eq_true rfl⟩ ?_
  refine wp_toI (z := (-1)) (by rw [rkI, hr]) ?_
  refine wp_istore_n (lv' := [(2, .int (-1)), (0, .ref o), (1, .int (nI m))]) d_Mod_head_8 rfl (by decide) rfl ?_
  refine wp_iload_n d_Mod_head_9 rfl 0 rfl ?_
  refine wp_if_ge (tgt := 20) d_Mod_head_10 (by decide) (fun c => absurd c (by decide)) (fun _ => ?_)
  refine wp_aload_n d_Mod_head_13 rfl 1 rfl ?_
  refine wp_iconst (v := nI 0) d_Mod_head_14 (by decide) ?_
  refine wp_iconst (v := nI 1) d_Mod_head_15 (by decide) ?_
  refine wp_callV (r := 0) d_Mod_head_16 (link_V (as := [.int (nI 0), .int (nI 1)]) (rest := []) (r := (R_Mod, T_Mod, 43)) d_Mod_head_16 cal_Mod_breaks wM_Mod_155 rfl hM_o rfl) cal_Mod_breaks (c_Mod_breaks (nI 0) (nI 1)) (Nat.le_of_ble_eq_true rfl) ⟨Nat.le_of_ble_eq_true rfl, Nat.le_of_ble_eq_true rfl⟩ ?_
  exact wp_zret (ty := .boolean) d_Mod_head_19 rfl rfl ⟨resI (bI_zero (by rw [hn0]; rfl)), _, _, rfl, by rw [hn0]; exact HP_no⟩
set_option maxRecDepth 20000 in
theorem c_Mod_head1 {G : Gt} {o : Nat} {A : Nat → Nat} {Fi : Nat → Int32} {M : Nat → Nat → Int32} {Ml : Nat → Nat → Int64} {t : Nat → Nat} {ln : Nat} (hI : mInj o A) (hJ : Jt t ln Fi M) {m p : Nat} (hm : m ≤ 200) (hr : rankOf (gv t ln 0) = some p) : CallE G m_Mod_head 2 28 [.ref o, .int (nI m)] (hM o A Fi M Ml) 0 0 (some (.int (bI (pHead (gv t ln)).isLeft))) (fun h' => ∃ Fi' M', h' = hM o A Fi' M' Ml ∧ HP (pHead (gv t ln)) m Fi M Fi' M') := by
  have hp5 := (rank_ne hr).2
  have hln := hJ.1
  have h1 := gv_one (rank_ne hr).1
  have hn1 : ln = 1 → pHead (gv t ln) = .inr (1, 1) := fun h => by unfold pHead; rw [hr]; simp [h1.mp h]
  have hn2 : ln ≠ 1 → ¬ gI t ln 1 = gI t ln 0 → pHead (gv t ln) = .inr (0, 1) := fun h h2 => by
    have h3 : ¬ gv t ln 1 = -1 := fun q => h (h1.mpr q)
    have h4 : ¬ gv t ln 1 = gv t ln 0 := fun q => h2 ((gI_gI hJ.2.2.2 ln 1 0).mpr q)
    unfold pHead
    rw [hr]
    simp [h3, h4]
  have hph : ln ≠ 1 → gI t ln 1 = gI t ln 0 → pHead (gv t ln) = (match pByte (gv t ln) 10 1 2 with | .inl a => .inl (p, a) | .inr f => .inr f) := fun h h2 => by
    have h3 : ¬ gv t ln 1 = -1 := fun q => h (h1.mpr q)
    have h4 : gv t ln 1 = gv t ln 0 := (gI_gI hJ.2.2.2 ln 1 0).mp h2
    unfold pHead
    rw [hr]
    simp only [h3, h4, if_false, ne_eq, not_true_eq_false]
    have h5 : ¬ gv t ln 0 = -1 := (rank_ne hr).1
    simp only [h5, if_false]
    cases pByte (gv t ln) 10 1 2 <;> rfl
  have hlast : ∀ F1, RP (pByte (gv t ln) 10 1 2) (va_up Fi 40 (nI 2)) F1 → HP (match pByte (gv t ln) 10 1 2 with | .inl a => .inl (p, a) | .inr f => .inr f) m Fi M F1 (u2 M 18 m (nI p)) := fun F1 h => by
    refine ⟨fun j a b c => (h.1 j a b c).trans (by simp [va_up, c]), fun a ha => u2_ne _ _ ha, fun i hi => by rw [u2_at, if_neg hi], fun q b hb => ?_, fun f hf => ?_⟩
    · cases hc : pByte (gv t ln) 10 1 2 with
      | inl a =>
        rw [hc] at hb
        cases hb
        exact ⟨by rw [u2_at, if_pos rfl], h.2.1 _ hc⟩
      | inr a =>
        rw [hc] at hb
        cases hb
    · cases hc : pByte (gv t ln) 10 1 2 with
      | inl a =>
        rw [hc] at hf
        cases hf
      | inr a =>
        rw [hc] at hf
        cases hf
        exact h.2.2 _ hc
  refine CallS.of (Nat.le_of_ble_eq_true rfl) ?_
  refine wp_aload_n d_Mod_head_0 rfl 0 rfl ?_
  refine wp_iconst (v := nI 0) d_Mod_head_1 (by decide) ?_
  refine wp_callV (r := 0) d_Mod_head_2 (link_V (as := [.int (nI 0)]) (rest := []) (r := (R_Mod, T_Mod, 43)) d_Mod_head_2 cal_Mod_here wM_Mod_151 rfl hM_o rfl) cal_Mod_here (c_Mod_here hI hJ (by omega)) (Nat.le_of_ble_eq_true rfl) ⟨Nat.le_of_ble_eq_true rfl, Nat.le_of_ble_eq_true rfl⟩ ?_
  refine wp_callV (r := 0) d_Mod_head_5 (link_S (av := [.int (gI t ln 0)]) (rest := []) d_Mod_head_5 cal_Mod_rank wM_Mod_158 rfl) cal_Mod_rank (c_Mod_rank hJ.2.2.2 _ _) (Nat.le_of_ble_eq_true rfl) ⟨Nat.le_of_ble_eq_true rfl, Nat.le_of_ble_eq_true rfl⟩ ?_
  refine wp_toI (z := (nI p)) (by rw [rkI, hr]) ?_
  refine wp_istore_n (lv' := [(2, .int (nI p)), (0, .ref o), (1, .int (nI m))]) d_Mod_head_8 rfl (by decide) rfl ?_
  refine wp_iload_n d_Mod_head_9 rfl 0 rfl ?_
  refine wp_if_geN (tgt := 20) d_Mod_head_10 (by decide) (by omega) ?_
  refine wp_aload_n d_Mod_head_20 rfl 1 rfl ?_
  refine wm_get d_Mod_head_21 39 (by decide) wF_Mod_142 rfl ?_
  refine wp_toI (z := (nI ln)) (hJ.2.1) ?_
  refine wp_iconst (v := nI 1) d_Mod_head_24 (by decide) ?_
  refine wp_neN (tgt := 35) d_Mod_head_25 (by decide) (by omega) (by omega) (fun c25 => ?_) (fun c25 => ?_)
  · refine wp_aload_n d_Mod_head_35 rfl 1 rfl ?_
    refine wp_iconst (v := nI 1) d_Mod_head_36 (by decide) ?_
    refine wp_callV (r := 0) d_Mod_head_37 (link_V (as := [.int (nI 1)]) (rest := []) (r := (R_Mod, T_Mod, 43)) d_Mod_head_37 cal_Mod_here wM_Mod_151 rfl hM_o rfl) cal_Mod_here (c_Mod_here hI hJ (by omega)) (Nat.le_of_ble_eq_true rfl) ⟨Nat.le_of_ble_eq_true rfl, Nat.le_of_ble_eq_true rfl⟩ ?_
    refine wp_aload_n d_Mod_head_40 rfl 1 rfl ?_
    refine wp_iconst (v := nI 0) d_Mod_head_41 (by decide) ?_
    refine wp_callV (r := 1) d_Mod_head_42 (link_V (as := [.int (nI 0)]) (rest := [.int (gI t ln 1)]) (r := (R_Mod, T_Mod, 43)) d_Mod_head_42 cal_Mod_here wM_Mod_151 rfl hM_o rfl) cal_Mod_here (c_Mod_here hI hJ (by omega)) (Nat.le_of_ble_eq_true rfl) ⟨Nat.le_of_ble_eq_true rfl, Nat.le_of_ble_eq_true rfl⟩ ?_
    refine wp_icmp_eq (tgt := 55) d_Mod_head_45 (by decide) (fun c45 => ?_) (fun c45 => ?_)
    · refine wp_aload_n d_Mod_head_55 rfl 1 rfl ?_
      refine wm_get d_Mod_head_56 18 (by decide) wF_Mod_54 rfl ?_
      refine wp_iload_n d_Mod_head_59 rfl 2 rfl ?_
      refine wp_iload_n d_Mod_head_60 rfl 0 rfl ?_
      refine wm_ist (j := 18) d_Mod_head_61 hI (by decide) (by decide) (by show _ < 201; omega) (by decide) ?_
      refine wp_aload_n d_Mod_head_62 rfl 1 rfl ?_
      refine wp_iconst (v := nI 2) d_Mod_head_63 (by decide) ?_
      refine wm_put (Fi' := va_up Fi 40 (nI 2)) d_Mod_head_64 40 (by decide) wF_Mod_148 rfl (by decide) rfl ?_
      have hJ1 : Jt t ln (va_up Fi 40 (nI 2)) (u2 M 18 m (nI p)) := ⟨hJ.1, hJ.2.1, hJ.2.2⟩
      refine wp_aload_n d_Mod_head_67 rfl 1 rfl ?_
      refine wp_bipush (v := nI 10) d_Mod_head_68 (by decide) ?_
      refine wp_iconst (v := nI 1) d_Mod_head_70 (by decide) ?_
      refine wp_callEV (k' := 0) (n' := 0) (r := 0) d_Mod_head_71 (link_V (as := [.int (nI 10), .int (nI 1)]) (rest := []) (r := (R_Mod, T_Mod, 43)) d_Mod_head_71 cal_Mod_passes wM_Mod_161 rfl hM_o rfl) cal_Mod_passes (c_Mod_passes (a := 2) hI hJ1 (by simp [va_up]) (by omega) (by omega)) (Nat.le_of_ble_eq_true rfl) ⟨Nat.le_of_ble_eq_true rfl, Nat.le_of_ble_eq_true rfl⟩ (fun h' q71 => ?_)
      obtain ⟨F1, rfl, hF1⟩ := q71
      exact wp_zret (ty := .boolean) d_Mod_head_74 rfl (narB' _) ⟨resI (by rw [hph c25 c45]; cases pByte (gv t ln) 10 1 2 <;> rfl), _, _, rfl, by rw [hph c25 c45]; exact hlast F1 hF1⟩
    · refine wp_aload_n d_Mod_head_48 rfl 1 rfl ?_
      refine wp_iconst (v := nI 0) d_Mod_head_49 (by decide) ?_
      refine wp_iconst (v := nI 1) d_Mod_head_50 (by decide) ?_
      refine wp_callV (r := 0) d_Mod_head_51 (link_V (as := [.int (nI 0), .int (nI 1)]) (rest := []) (r := (R_Mod, T_Mod, 43)) d_Mod_head_51 cal_Mod_breaks wM_Mod_155 rfl hM_o rfl) cal_Mod_breaks (c_Mod_breaks (nI 0) (nI 1)) (Nat.le_of_ble_eq_true rfl) ⟨Nat.le_of_ble_eq_true rfl, Nat.le_of_ble_eq_true rfl⟩ ?_
      exact wp_zret (ty := .boolean) d_Mod_head_54 rfl rfl ⟨resI (bI_zero (by rw [hn2 c25 c45]; rfl)), _, _, rfl, by rw [hn2 c25 c45]; exact HP_no⟩
  · refine wp_aload_n d_Mod_head_28 rfl 1 rfl ?_
    refine wp_iconst (v := nI 1) d_Mod_head_29 (by decide) ?_
    refine wp_iconst (v := nI 1) d_Mod_head_30 (by decide) ?_
    refine wp_callV (r := 0) d_Mod_head_31 (link_V (as := [.int (nI 1), .int (nI 1)]) (rest := []) (r := (R_Mod, T_Mod, 43)) d_Mod_head_31 cal_Mod_breaks wM_Mod_155 rfl hM_o rfl) cal_Mod_breaks (c_Mod_breaks (nI 1) (nI 1)) (Nat.le_of_ble_eq_true rfl) ⟨Nat.le_of_ble_eq_true rfl, Nat.le_of_ble_eq_true rfl⟩ ?_
    exact wp_zret (ty := .boolean) d_Mod_head_34 rfl rfl ⟨resI (bI_zero (by rw [hn1 c25]; rfl)), _, _, rfl, by rw [hn1 c25]; exact HP_no⟩
theorem c_Mod_head {G : Gt} {o : Nat} {A : Nat → Nat} {Fi : Nat → Int32} {M : Nat → Nat → Int32} {Ml : Nat → Nat → Int64} {t : Nat → Nat} {ln : Nat} (hI : mInj o A) (hJ : Jt t ln Fi M) {m : Nat} (hm : m ≤ 200) : CallE G m_Mod_head 2 28 [.ref o, .int (nI m)] (hM o A Fi M Ml) 0 0 (some (.int (bI (pHead (gv t ln)).isLeft))) (fun h' => ∃ Fi' M', h' = hM o A Fi' M' Ml ∧ HP (pHead (gv t ln)) m Fi M Fi' M') := by
  cases hr : rankOf (gv t ln 0) with
  | none => exact CallS.mono (c_Mod_head0 hI hJ hm hr) (by decide) (by decide) (Nat.le_refl _) (Nat.le_refl _) (fun _ _ h => h)
  | some p => exact CallS.mono (c_Mod_head1 hI hJ hm hr) (by decide) (by decide) (Nat.le_refl _) (Nat.le_refl _) (fun _ _ h => h)
end Mod6
