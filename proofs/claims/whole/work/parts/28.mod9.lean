section Mod9
theorem inl_of {α β : Type} {x : α ⊕ β} (h : x.isLeft = true) : ∃ b, x = .inl b := by
  cases x with
  | inl b => exact ⟨b, rfl⟩
  | inr f => cases h
theorem inr_of {α β : Type} {x : α ⊕ β} (h : x.isLeft = false) : ∃ f, x = .inr f := by
  cases x with
  | inl b => cases h
  | inr f => exact ⟨f, rfl⟩
theorem pByte_b {g : Nat → Int} {c : Int} {r a b : Nat} (h : pByte g c r a = .inl b) : b = a + 1 := by
  unfold pByte at h
  split at h <;> cases h
  rfl
theorem pNum_b {g : Nat → Int} {lo hi : Int} {a b : Nat} (h : pNum g lo hi a = .inl b) : b = a + 2 := by
  unfold pNum at h
  split at h
  · cases h
  · split at h
    · cases h
    · split at h <;> cases h
      rfl
theorem pHead_b {g : Nat → Int} {p b : Nat} (h : pHead g = .inl (p, b)) : b = 3 ∧ p < 5 := by
  unfold pHead at h
  cases hr : rankOf (g 0) with
  | none => rw [hr] at h; cases h
  | some q =>
    rw [hr] at h
    simp only at h
    split at h
    · cases h
    · split at h
      · cases h
      · split at h
        · rename_i a ha
          cases h
          exact ⟨pByte_b ha, (rank_ne hr).2⟩
        · cases h
theorem pAddrs_b {g : Nat → Int} : ∀ {f a : Nat} {as : List (List Nat)} {b : Nat} {bs : List (List Nat)}, pAddrs g f a as = .inl (b, bs) → b ≤ a + 9 * f
  | 0, a, as, b, bs, h => by cases h
  | f + 1, a, as, b, bs, h => by
    rw [pAddrs] at h
    cases hc : pLet g 2 8 a with
    | inr x => rw [hc] at h; cases h
    | inl c =>
      rw [hc] at h
      simp only at h
      have e := (pLet_inl hc).1
      split at h
      · cases h
      · split at h
        · cases f with
          | zero => cases h
          | succ f =>
            have := pAddrs_b h
            omega
        · split at h
          · cases h
            omega
          · cases h
def JP (res : PR (Nat × List (List Nat))) (m : Nat) (Fi : Nat → Int32) (M : Nat → Nat → Int32) (Ml : Nat → Nat → Int64) (Fi' : Nat → Int32) (M' : Nat → Nat → Int32) (Ml' : Nat → Nat → Int64) : Prop :=
  (∀ j, j ≠ 37 → j ≠ 38 → j ≠ 40 → j ≠ 41 → Fi' j = Fi j) ∧ (∀ a, a ≠ 18 → a ≠ 19 → M' a = M a) ∧ (∀ i, i ≠ m → M' 18 i = M 18 i ∧ M' 19 i = M 19 i) ∧ (∀ a, a ≠ 20 → Ml' a = Ml a) ∧ (∀ i, i < 7 * m ∨ 7 * m + 7 ≤ i → Ml' 20 i = Ml 20 i) ∧
  (∀ p as, res = .inl (p, as) → M' 18 m = nI p ∧ p < 5 ∧ M' 19 m = nI as.length ∧ (∀ k x, as[k]? = some x → Ml' 20 (7 * m + k) = lN (beN x)) ∧ as.length ≤ 7 ∧ 0 < as.length ∧ (∀ x ∈ as, ad8 x)) ∧ ∀ f, res = .inr f → Fi' 37 = nI f.1 ∧ Fi' 38 = nI f.2
theorem hj1 {t : Nat → Nat} {ln : Nat} {f : Nat × Nat}   (hf : pHead (gv t ln) = .inr f) : judge (gv t ln) = .inr f := by
  unfold judge
  simp only [hf]
theorem hj2 {t : Nat → Nat} {ln : Nat} {f : Nat × Nat} {p1 b1 : Nat} (e1 : pHead (gv t ln) = .inl (p1, b1)) (hf : pAddrs (gv t ln) 7 b1 [] = .inr f) : judge (gv t ln) = .inr f := by
  unfold judge
  simp only [e1, hf]
theorem hj3 {t : Nat → Nat} {ln : Nat} {f : Nat × Nat} {p1 b1 : Nat} {b2 : Nat} {as : List (List Nat)} (e1 : pHead (gv t ln) = .inl (p1, b1)) (e2 : pAddrs (gv t ln) 7 b1 [] = .inl (b2, as)) (hf : pNum (gv t ln) 1 31 b2 = .inr f) : judge (gv t ln) = .inr f := by
  unfold judge
  simp only [e1, e2, hf]
theorem hj4 {t : Nat → Nat} {ln : Nat} {f : Nat × Nat} {p1 b1 : Nat} {b2 : Nat} {as : List (List Nat)} {b3 : Nat} (e1 : pHead (gv t ln) = .inl (p1, b1)) (e2 : pAddrs (gv t ln) 7 b1 [] = .inl (b2, as)) (e3 : pNum (gv t ln) 1 31 b2 = .inl b3) (hf : pNum (gv t ln) 0 23 b3 = .inr f) : judge (gv t ln) = .inr f := by
  unfold judge
  simp only [e1, e2, e3, hf]
theorem hj5 {t : Nat → Nat} {ln : Nat} {f : Nat × Nat} {p1 b1 : Nat} {b2 : Nat} {as : List (List Nat)} {b3 : Nat} {b4 : Nat} (e1 : pHead (gv t ln) = .inl (p1, b1)) (e2 : pAddrs (gv t ln) 7 b1 [] = .inl (b2, as)) (e3 : pNum (gv t ln) 1 31 b2 = .inl b3) (e4 : pNum (gv t ln) 0 23 b3 = .inl b4) (hf : pNum (gv t ln) 0 59 b4 = .inr f) : judge (gv t ln) = .inr f := by
  unfold judge
  simp only [e1, e2, e3, e4, hf]
theorem hj6 {t : Nat → Nat} {ln : Nat} {f : Nat × Nat} {p1 b1 : Nat} {b2 : Nat} {as : List (List Nat)} {b3 : Nat} {b4 : Nat} {b5 : Nat} (e1 : pHead (gv t ln) = .inl (p1, b1)) (e2 : pAddrs (gv t ln) 7 b1 [] = .inl (b2, as)) (e3 : pNum (gv t ln) 1 31 b2 = .inl b3) (e4 : pNum (gv t ln) 0 23 b3 = .inl b4) (e5 : pNum (gv t ln) 0 59 b4 = .inl b5) (hf : pByte (gv t ln) 32 5 b5 = .inr f) : judge (gv t ln) = .inr f := by
  unfold judge
  simp only [e1, e2, e3, e4, e5, hf]
theorem hj7 {t : Nat → Nat} {ln : Nat} {f : Nat × Nat} {p1 b1 : Nat} {b2 : Nat} {as : List (List Nat)} {b3 : Nat} {b4 : Nat} {b5 : Nat} {b6 : Nat} (e1 : pHead (gv t ln) = .inl (p1, b1)) (e2 : pAddrs (gv t ln) 7 b1 [] = .inl (b2, as)) (e3 : pNum (gv t ln) 1 31 b2 = .inl b3) (e4 : pNum (gv t ln) 0 23 b3 = .inl b4) (e5 : pNum (gv t ln) 0 59 b4 = .inl b5) (e6 : pByte (gv t ln) 32 5 b5 = .inl b6) (hf : pLet (gv t ln) 5 8 b6 = .inr f) : judge (gv t ln) = .inr f := by
  unfold judge
  simp only [e1, e2, e3, e4, e5, e6, hf]
theorem hj8 {t : Nat → Nat} {ln : Nat} {f : Nat × Nat} {p1 b1 : Nat} {b2 : Nat} {as : List (List Nat)} {b3 : Nat} {b4 : Nat} {b5 : Nat} {b6 : Nat} {b7 : Nat} (e1 : pHead (gv t ln) = .inl (p1, b1)) (e2 : pAddrs (gv t ln) 7 b1 [] = .inl (b2, as)) (e3 : pNum (gv t ln) 1 31 b2 = .inl b3) (e4 : pNum (gv t ln) 0 23 b3 = .inl b4) (e5 : pNum (gv t ln) 0 59 b4 = .inl b5) (e6 : pByte (gv t ln) 32 5 b5 = .inl b6) (e7 : pLet (gv t ln) 5 8 b6 = .inl b7) (hf : pByte (gv t ln) 10 5 b7 = .inr f) : judge (gv t ln) = .inr f := by
  unfold judge
  simp only [e1, e2, e3, e4, e5, e6, e7, hf]
theorem hj9 {t : Nat → Nat} {ln : Nat} {f : Nat × Nat} {p1 b1 : Nat} {b2 : Nat} {as : List (List Nat)} {b3 : Nat} {b4 : Nat} {b5 : Nat} {b6 : Nat} {b7 : Nat} {b8 : Nat} (e1 : pHead (gv t ln) = .inl (p1, b1)) (e2 : pAddrs (gv t ln) 7 b1 [] = .inl (b2, as)) (e3 : pNum (gv t ln) 1 31 b2 = .inl b3) (e4 : pNum (gv t ln) 0 23 b3 = .inl b4) (e5 : pNum (gv t ln) 0 59 b4 = .inl b5) (e6 : pByte (gv t ln) 32 5 b5 = .inl b6) (e7 : pLet (gv t ln) 5 8 b6 = .inl b7) (e8 : pByte (gv t ln) 10 5 b7 = .inl b8) (hf : pBody (gv t ln) 20 b8 = .inr f) : judge (gv t ln) = .inr f := by
  unfold judge
  simp only [e1, e2, e3, e4, e5, e6, e7, e8, hf]
theorem hjok {t : Nat → Nat} {ln : Nat} {p1 b1 : Nat} {b2 : Nat} {as : List (List Nat)} {b3 : Nat} {b4 : Nat} {b5 : Nat} {b6 : Nat} {b7 : Nat} {b8 : Nat} {b9 : Unit} (e1 : pHead (gv t ln) = .inl (p1, b1)) (e2 : pAddrs (gv t ln) 7 b1 [] = .inl (b2, as)) (e3 : pNum (gv t ln) 1 31 b2 = .inl b3) (e4 : pNum (gv t ln) 0 23 b3 = .inl b4) (e5 : pNum (gv t ln) 0 59 b4 = .inl b5) (e6 : pByte (gv t ln) 32 5 b5 = .inl b6) (e7 : pLet (gv t ln) 5 8 b6 = .inl b7) (e8 : pByte (gv t ln) 10 5 b7 = .inl b8) (e9 : pBody (gv t ln) 20 b8 = .inl b9) : judge (gv t ln) = .inl (p1, as) := by
  unfold judge
  simp only [e1, e2, e3, e4, e5, e6, e7, e8, e9]
set_option maxRecDepth 20000 in
theorem c_Mod_judge {G : Gt} {o : Nat} {A : Nat → Nat} {Fi : Nat → Int32} {M : Nat → Nat → Int32} {Ml : Nat → Nat → Int64} {t : Nat → Nat} {ln : Nat} (hI : mInj o A) (hJ : Jt t ln Fi M) {m : Nat} (hm : m ≤ 200) : CallE G m_Mod_judge 4 58 [.ref o, .int (nI m)] (hM o A Fi M Ml) 0 0 (some (.int (bI (judge (gv t ln)).isLeft))) (fun h' => ∃ Fi' M' Ml', h' = hM o A Fi' M' Ml' ∧ JP (judge (gv t ln)) m Fi M Ml Fi' M' Ml') := by
  refine CallS.of (Nat.le_of_ble_eq_true rfl) ?_
  refine wp_aload_n d_Mod_judge_0 rfl 0 rfl ?_
  refine wp_iconst (v := nI 0) d_Mod_judge_1 (by decide) ?_
  refine wm_put (Fi' := va_up Fi 40 (nI 0)) d_Mod_judge_2 40 (by decide) wF_Mod_148 rfl (by decide) rfl ?_
  have hJ0 : Jt t ln (va_up Fi 40 (nI 0)) M := ⟨hJ.1, hJ.2.1, hJ.2.2⟩
  refine wp_aload_n d_Mod_judge_5 rfl 0 rfl ?_
  refine wp_iload_n d_Mod_judge_6 rfl 1 rfl ?_
  refine wp_callEV (k' := 0) (n' := 0) (r := 0) d_Mod_judge_7 (link_V (as := [.int (nI m)]) (rest := []) (r := (R_Mod, T_Mod, 43)) d_Mod_judge_7 cal_Mod_head wM_Mod_176 rfl hM_o rfl) cal_Mod_head (c_Mod_head hI hJ0 hm) (Nat.le_of_ble_eq_true rfl) ⟨Nat.le_of_ble_eq_true rfl, Nat.le_of_ble_eq_true rfl⟩ (fun h' q7 => ?_)
  obtain ⟨F1, M1, rfl, hP1⟩ := q7
  have hfr1 : ∀ j, j ≠ 37 → j ≠ 38 → j ≠ 40 → j ≠ 41 → F1 j = Fi j := fun j a b c _ => (hP1.1 j a b c).trans (by simp [va_up, c])
  have hJ1 : Jt t ln F1 M1 := ⟨hJ.1, (hfr1 39 (by decide) (by decide) (by decide) (by decide)).trans hJ.2.1, by rw [hP1.2.1 5 (by decide)]; exact hJ.2.2.1, hJ.2.2.2⟩
  refine wp_if_eqB (tgt := 90) d_Mod_judge_10 (by decide) (fun c10 => ?_) (fun c10 => ?_)
  · refine wp_iconst (v := nI 0) d_Mod_judge_90 (by decide) ?_
    exact (inr_of c10).elim (fun f hf => wp_zret (ty := .boolean) d_Mod_judge_91 rfl rfl ⟨resI (bI_zero (by rw [hj1  hf]; rfl)), _, _, _, rfl, by rw [hj1  hf]; exact ⟨hfr1, fun a x _ => hP1.2.1 a x, fun i hi => ⟨hP1.2.2.1 i hi, by rw [hP1.2.1 19 (by decide)]⟩, fun _ _ => rfl, fun _ _ => rfl, fun p as9 hb => (by cases hb), fun g hg => (by cases hg; exact hP1.2.2.2.2 f hf)⟩⟩)
  · obtain ⟨⟨p1, b1⟩, e1⟩ := inl_of c10
    have hb1 := (hP1.2.2.2.1 _ _ e1).2
    have hbb1 := (pHead_b e1).1
    refine wp_aload_n d_Mod_judge_13 rfl 0 rfl ?_
    refine wp_iload_n d_Mod_judge_14 rfl 1 rfl ?_
    refine wp_callEV (k' := 0) (n' := 0) (r := 0) d_Mod_judge_15 (link_V (as := [.int (nI m)]) (rest := []) (r := (R_Mod, T_Mod, 43)) d_Mod_judge_15 cal_Mod_receivers wM_Mod_179 rfl hM_o rfl) cal_Mod_receivers (c_Mod_receivers (a := b1) hI hJ1 hm hb1 (by omega)) (Nat.le_of_ble_eq_true rfl) ⟨Nat.le_of_ble_eq_true rfl, Nat.le_of_ble_eq_true rfl⟩ (fun h' q15 => ?_)
    obtain ⟨F2, M2, L2, rfl, hP2⟩ := q15
    have hfr2 : ∀ j, j ≠ 37 → j ≠ 38 → j ≠ 40 → j ≠ 41 → F2 j = Fi j := fun j a b c d => (hP2.1 j a b c d).trans (hfr1 j a b c d)
    have hJ2 : Jt t ln F2 M2 := ⟨hJ.1, (hfr2 39 (by decide) (by decide) (by decide) (by decide)).trans hJ.2.1, by rw [hP2.2.1 5 (by decide)]; exact hJ1.2.2.1, hJ.2.2.2⟩
    have hMa : ∀ a, a ≠ 18 → a ≠ 19 → M2 a = M a := fun a x z => (hP2.2.1 a z).trans (hP1.2.1 a x)
    have hMb : ∀ i, i ≠ m → M2 18 i = M 18 i ∧ M2 19 i = M 19 i := fun i hi => ⟨by rw [hP2.2.1 18 (by decide)]; exact hP1.2.2.1 i hi, by rw [hP2.2.2.1 i hi, hP1.2.1 19 (by decide)]⟩
    refine wp_if_eqB (tgt := 90) d_Mod_judge_18 (by decide) (fun c18 => ?_) (fun c18 => ?_)
    · refine wp_iconst (v := nI 0) d_Mod_judge_90 (by decide) ?_
      exact (inr_of c18).elim (fun f hf => wp_zret (ty := .boolean) d_Mod_judge_91 rfl rfl ⟨resI (bI_zero (by rw [hj2 e1 hf]; rfl)), _, _, _, rfl, by rw [hj2 e1 hf]; exact ⟨hfr2, hMa, hMb, hP2.2.2.2.1, hP2.2.2.2.2.1, fun p as9 hb => (by cases hb), fun g hg => (by cases hg; exact hP2.2.2.2.2.2.2 f hf)⟩⟩)
    · obtain ⟨⟨b2, as⟩, e2⟩ := inl_of c18
      have hb2 := (hP2.2.2.2.2.2.1 _ _ e2).1
      have hbb2 := pAddrs_b e2
      refine wp_aload_n d_Mod_judge_21 rfl 0 rfl ?_
      refine wp_iconst (v := nI 1) d_Mod_judge_22 (by decide) ?_
      refine wp_bipush (v := nI 31) d_Mod_judge_23 (by decide) ?_
      refine wp_callEV (k' := 0) (n' := 0) (r := 0) d_Mod_judge_25 (link_V (as := [.int (nI 1), .int (nI 31)]) (rest := []) (r := (R_Mod, T_Mod, 43)) d_Mod_judge_25 cal_Mod_two wM_Mod_182 rfl hM_o rfl) cal_Mod_two (c_Mod_two (a := b2) hI hJ2 hb2 (by omega) (by omega) (by omega)) (Nat.le_of_ble_eq_true rfl) ⟨Nat.le_of_ble_eq_true rfl, Nat.le_of_ble_eq_true rfl⟩ (fun h' q25 => ?_)
      obtain ⟨F3, rfl, hP3⟩ := q25
      have hfr3 : ∀ j, j ≠ 37 → j ≠ 38 → j ≠ 40 → j ≠ 41 → F3 j = Fi j := fun j a b c d => (hP3.1 j a b c).trans (hfr2 j a b c d)
      have hJ3 : Jt t ln F3 M2 := ⟨hJ.1, (hfr3 39 (by decide) (by decide) (by decide) (by decide)).trans hJ.2.1, hJ2.2.2⟩
      refine wp_if_eqB (tgt := 90) d_Mod_judge_28 (by decide) (fun c28 => ?_) (fun c28 => ?_)
      · refine wp_iconst (v := nI 0) d_Mod_judge_90 (by decide) ?_
        exact (inr_of c28).elim (fun f hf => wp_zret (ty := .boolean) d_Mod_judge_91 rfl rfl ⟨resI (bI_zero (by rw [hj3 e1 e2 hf]; rfl)), _, _, _, rfl, by rw [hj3 e1 e2 hf]; exact ⟨hfr3, hMa, hMb, hP2.2.2.2.1, hP2.2.2.2.2.1, fun p as9 hb => (by cases hb), fun g hg => (by cases hg; exact hP3.2.2 f hf)⟩⟩)
      · obtain ⟨b3, e3⟩ := inl_of c28
        have hb3 := hP3.2.1 _ e3
        have hbb3 := pNum_b e3
        refine wp_aload_n d_Mod_judge_31 rfl 0 rfl ?_
        refine wp_iconst (v := nI 0) d_Mod_judge_32 (by decide) ?_
        refine wp_bipush (v := nI 23) d_Mod_judge_33 (by decide) ?_
        refine wp_callEV (k' := 0) (n' := 0) (r := 0) d_Mod_judge_35 (link_V (as := [.int (nI 0), .int (nI 23)]) (rest := []) (r := (R_Mod, T_Mod, 43)) d_Mod_judge_35 cal_Mod_two wM_Mod_182 rfl hM_o rfl) cal_Mod_two (c_Mod_two (a := b3) hI hJ3 hb3 (by omega) (by omega) (by omega)) (Nat.le_of_ble_eq_true rfl) ⟨Nat.le_of_ble_eq_true rfl, Nat.le_of_ble_eq_true rfl⟩ (fun h' q35 => ?_)
        obtain ⟨F4, rfl, hP4⟩ := q35
        have hfr4 : ∀ j, j ≠ 37 → j ≠ 38 → j ≠ 40 → j ≠ 41 → F4 j = Fi j := fun j a b c d => (hP4.1 j a b c).trans (hfr3 j a b c d)
        have hJ4 : Jt t ln F4 M2 := ⟨hJ.1, (hfr4 39 (by decide) (by decide) (by decide) (by decide)).trans hJ.2.1, hJ2.2.2⟩
        refine wp_if_eqB (tgt := 90) d_Mod_judge_38 (by decide) (fun c38 => ?_) (fun c38 => ?_)
        · refine wp_iconst (v := nI 0) d_Mod_judge_90 (by decide) ?_
          exact (inr_of c38).elim (fun f hf => wp_zret (ty := .boolean) d_Mod_judge_91 rfl rfl ⟨resI (bI_zero (by rw [hj4 e1 e2 e3 hf]; rfl)), _, _, _, rfl, by rw [hj4 e1 e2 e3 hf]; exact ⟨hfr4, hMa, hMb, hP2.2.2.2.1, hP2.2.2.2.2.1, fun p as9 hb => (by cases hb), fun g hg => (by cases hg; exact hP4.2.2 f hf)⟩⟩)
        · obtain ⟨b4, e4⟩ := inl_of c38
          have hb4 := hP4.2.1 _ e4
          have hbb4 := pNum_b e4
          refine wp_aload_n d_Mod_judge_41 rfl 0 rfl ?_
          refine wp_iconst (v := nI 0) d_Mod_judge_42 (by decide) ?_
          refine wp_bipush (v := nI 59) d_Mod_judge_43 (by decide) ?_
          refine wp_callEV (k' := 0) (n' := 0) (r := 0) d_Mod_judge_45 (link_V (as := [.int (nI 0), .int (nI 59)]) (rest := []) (r := (R_Mod, T_Mod, 43)) d_Mod_judge_45 cal_Mod_two wM_Mod_182 rfl hM_o rfl) cal_Mod_two (c_Mod_two (a := b4) hI hJ4 hb4 (by omega) (by omega) (by omega)) (Nat.le_of_ble_eq_true rfl) ⟨Nat.le_of_ble_eq_true rfl, Nat.le_of_ble_eq_true rfl⟩ (fun h' q45 => ?_)
          obtain ⟨F5, rfl, hP5⟩ := q45
          have hfr5 : ∀ j, j ≠ 37 → j ≠ 38 → j ≠ 40 → j ≠ 41 → F5 j = Fi j := fun j a b c d => (hP5.1 j a b c).trans (hfr4 j a b c d)
          have hJ5 : Jt t ln F5 M2 := ⟨hJ.1, (hfr5 39 (by decide) (by decide) (by decide) (by decide)).trans hJ.2.1, hJ2.2.2⟩
          refine wp_if_eqB (tgt := 90) d_Mod_judge_48 (by decide) (fun c48 => ?_) (fun c48 => ?_)
          · refine wp_iconst (v := nI 0) d_Mod_judge_90 (by decide) ?_
            exact (inr_of c48).elim (fun f hf => wp_zret (ty := .boolean) d_Mod_judge_91 rfl rfl ⟨resI (bI_zero (by rw [hj5 e1 e2 e3 e4 hf]; rfl)), _, _, _, rfl, by rw [hj5 e1 e2 e3 e4 hf]; exact ⟨hfr5, hMa, hMb, hP2.2.2.2.1, hP2.2.2.2.2.1, fun p as9 hb => (by cases hb), fun g hg => (by cases hg; exact hP5.2.2 f hf)⟩⟩)
          · obtain ⟨b5, e5⟩ := inl_of c48
            have hb5 := hP5.2.1 _ e5
            have hbb5 := pNum_b e5
            refine wp_aload_n d_Mod_judge_51 rfl 0 rfl ?_
            refine wp_bipush (v := nI 32) d_Mod_judge_52 (by decide) ?_
            refine wp_iconst (v := nI 5) d_Mod_judge_54 (by decide) ?_
            refine wp_callEV (k' := 0) (n' := 0) (r := 0) d_Mod_judge_55 (link_V (as := [.int (nI 32), .int (nI 5)]) (rest := []) (r := (R_Mod, T_Mod, 43)) d_Mod_judge_55 cal_Mod_passes wM_Mod_161 rfl hM_o rfl) cal_Mod_passes (c_Mod_passes (a := b5) hI hJ5 hb5 (by omega) (by omega)) (Nat.le_of_ble_eq_true rfl) ⟨Nat.le_of_ble_eq_true rfl, Nat.le_of_ble_eq_true rfl⟩ (fun h' q55 => ?_)
            obtain ⟨F6, rfl, hP6⟩ := q55
            have hfr6 : ∀ j, j ≠ 37 → j ≠ 38 → j ≠ 40 → j ≠ 41 → F6 j = Fi j := fun j a b c d => (hP6.1 j a b c).trans (hfr5 j a b c d)
            have hJ6 : Jt t ln F6 M2 := ⟨hJ.1, (hfr6 39 (by decide) (by decide) (by decide) (by decide)).trans hJ.2.1, hJ2.2.2⟩
            refine wp_if_eqB (tgt := 90) d_Mod_judge_58 (by decide) (fun c58 => ?_) (fun c58 => ?_)
            · refine wp_iconst (v := nI 0) d_Mod_judge_90 (by decide) ?_
              exact (inr_of c58).elim (fun f hf => wp_zret (ty := .boolean) d_Mod_judge_91 rfl rfl ⟨resI (bI_zero (by rw [hj6 e1 e2 e3 e4 e5 hf]; rfl)), _, _, _, rfl, by rw [hj6 e1 e2 e3 e4 e5 hf]; exact ⟨hfr6, hMa, hMb, hP2.2.2.2.1, hP2.2.2.2.2.1, fun p as9 hb => (by cases hb), fun g hg => (by cases hg; exact hP6.2.2 f hf)⟩⟩)
            · obtain ⟨b6, e6⟩ := inl_of c58
              have hb6 := hP6.2.1 _ e6
              have hbb6 := pByte_b e6
              refine wp_aload_n d_Mod_judge_61 rfl 0 rfl ?_
              refine wp_iconst (v := nI 5) d_Mod_judge_62 (by decide) ?_
              refine wp_callEV (k' := 0) (n' := 0) (r := 0) d_Mod_judge_63 (link_V (as := [.int (nI 5)]) (rest := []) (r := (R_Mod, T_Mod, 43)) d_Mod_judge_63 cal_Mod_letters wM_Mod_167 rfl hM_o rfl) cal_Mod_letters (c_Mod_letters (a := b6) hI hJ6 hb6 (by omega)) (Nat.le_of_ble_eq_true rfl) ⟨Nat.le_of_ble_eq_true rfl, Nat.le_of_ble_eq_true rfl⟩ (fun h' q63 => ?_)
              obtain ⟨F7, rfl, hP7⟩ := q63
              have hfr7 : ∀ j, j ≠ 37 → j ≠ 38 → j ≠ 40 → j ≠ 41 → F7 j = Fi j := fun j a b c d => (hP7.1 j a b c).trans (hfr6 j a b c d)
              have hJ7 : Jt t ln F7 M2 := ⟨hJ.1, (hfr7 39 (by decide) (by decide) (by decide) (by decide)).trans hJ.2.1, hJ2.2.2⟩
              refine wp_if_eqB (tgt := 90) d_Mod_judge_66 (by decide) (fun c66 => ?_) (fun c66 => ?_)
              · refine wp_iconst (v := nI 0) d_Mod_judge_90 (by decide) ?_
                exact (inr_of c66).elim (fun f hf => wp_zret (ty := .boolean) d_Mod_judge_91 rfl rfl ⟨resI (bI_zero (by rw [hj7 e1 e2 e3 e4 e5 e6 hf]; rfl)), _, _, _, rfl, by rw [hj7 e1 e2 e3 e4 e5 e6 hf]; exact ⟨hfr7, hMa, hMb, hP2.2.2.2.1, hP2.2.2.2.2.1, fun p as9 hb => (by cases hb), fun g hg => (by cases hg; exact hP7.2.2 f hf)⟩⟩)
              · obtain ⟨b7, e7⟩ := inl_of c66
                have hb7 := hP7.2.1 _ e7
                have hbb7 := (pLet_inl e7).1
                refine wp_aload_n d_Mod_judge_69 rfl 0 rfl ?_
                refine wp_bipush (v := nI 10) d_Mod_judge_70 (by decide) ?_
                refine wp_iconst (v := nI 5) d_Mod_judge_72 (by decide) ?_
                refine wp_callEV (k' := 0) (n' := 0) (r := 0) d_Mod_judge_73 (link_V (as := [.int (nI 10), .int (nI 5)]) (rest := []) (r := (R_Mod, T_Mod, 43)) d_Mod_judge_73 cal_Mod_passes wM_Mod_161 rfl hM_o rfl) cal_Mod_passes (c_Mod_passes (a := b7) hI hJ7 hb7 (by omega) (by omega)) (Nat.le_of_ble_eq_true rfl) ⟨Nat.le_of_ble_eq_true rfl, Nat.le_of_ble_eq_true rfl⟩ (fun h' q73 => ?_)
                obtain ⟨F8, rfl, hP8⟩ := q73
                have hfr8 : ∀ j, j ≠ 37 → j ≠ 38 → j ≠ 40 → j ≠ 41 → F8 j = Fi j := fun j a b c d => (hP8.1 j a b c).trans (hfr7 j a b c d)
                have hJ8 : Jt t ln F8 M2 := ⟨hJ.1, (hfr8 39 (by decide) (by decide) (by decide) (by decide)).trans hJ.2.1, hJ2.2.2⟩
                refine wp_if_eqB (tgt := 90) d_Mod_judge_76 (by decide) (fun c76 => ?_) (fun c76 => ?_)
                · refine wp_iconst (v := nI 0) d_Mod_judge_90 (by decide) ?_
                  exact (inr_of c76).elim (fun f hf => wp_zret (ty := .boolean) d_Mod_judge_91 rfl rfl ⟨resI (bI_zero (by rw [hj8 e1 e2 e3 e4 e5 e6 e7 hf]; rfl)), _, _, _, rfl, by rw [hj8 e1 e2 e3 e4 e5 e6 e7 hf]; exact ⟨hfr8, hMa, hMb, hP2.2.2.2.1, hP2.2.2.2.2.1, fun p as9 hb => (by cases hb), fun g hg => (by cases hg; exact hP8.2.2 f hf)⟩⟩)
                · obtain ⟨b8, e8⟩ := inl_of c76
                  have hb8 := hP8.2.1 _ e8
                  have hbb8 := pByte_b e8
                  refine wp_aload_n d_Mod_judge_79 rfl 0 rfl ?_
                  refine wp_callEV (k' := 0) (n' := 0) (r := 0) d_Mod_judge_80 (link_V (as := []) (rest := []) (r := (R_Mod, T_Mod, 43)) d_Mod_judge_80 cal_Mod_body wM_Mod_185 rfl hM_o rfl) cal_Mod_body (c_Mod_body (a := b8) hI hJ8 hb8 (by omega)) (Nat.le_of_ble_eq_true rfl) ⟨Nat.le_of_ble_eq_true rfl, Nat.le_of_ble_eq_true rfl⟩ (fun h' q80 => ?_)
                  obtain ⟨F9, rfl, hP9⟩ := q80
                  have hfr9 : ∀ j, j ≠ 37 → j ≠ 38 → j ≠ 40 → j ≠ 41 → F9 j = Fi j := fun j a b c d => (hP9.1 j a b c).trans (hfr8 j a b c d)
                  have hJ9 : Jt t ln F9 M2 := ⟨hJ.1, (hfr9 39 (by decide) (by decide) (by decide) (by decide)).trans hJ.2.1, hJ2.2.2⟩
                  refine wp_if_eqB (tgt := 90) d_Mod_judge_83 (by decide) (fun c83 => ?_) (fun c83 => ?_)
                  · refine wp_iconst (v := nI 0) d_Mod_judge_90 (by decide) ?_
                    exact (inr_of c83).elim (fun f hf => wp_zret (ty := .boolean) d_Mod_judge_91 rfl rfl ⟨resI (bI_zero (by rw [hj9 e1 e2 e3 e4 e5 e6 e7 e8 hf]; rfl)), _, _, _, rfl, by rw [hj9 e1 e2 e3 e4 e5 e6 e7 e8 hf]; exact ⟨hfr9, hMa, hMb, hP2.2.2.2.1, hP2.2.2.2.2.1, fun p as9 hb => (by cases hb), fun g hg => (by cases hg; exact hP9.2 f hf)⟩⟩)
                  · obtain ⟨b9, e9⟩ := inl_of c83
                    refine wp_iconst (v := nI 1) d_Mod_judge_86 (by decide) ?_
                    refine wp_goto (tgt := 91) d_Mod_judge_87 (by decide) ?_
                    exact wp_zret (ty := .boolean) d_Mod_judge_91 rfl rfl ⟨resI (bI_one (by rw [hjok e1 e2 e3 e4 e5 e6 e7 e8 e9]; rfl)), _, _, _, rfl, by rw [hjok e1 e2 e3 e4 e5 e6 e7 e8 e9]; exact ⟨hfr9, hMa, hMb, hP2.2.2.2.1, hP2.2.2.2.2.1, fun p as9 hb => (by cases hb; exact ⟨by rw [hP2.2.1 18 (by decide)]; exact (hP1.2.2.2.1 _ _ e1).1, (pHead_b e1).2, (hP2.2.2.2.2.2.1 _ _ e2).2⟩), fun f hf => (by cases hf)⟩⟩
end Mod9
