section Cls21
def rfE (Γ : Gm) (x : Nat) : Option Nat → Value
  | none => .null
  | some i => .ref (Γ 5 (16 * x + i))
theorem eIdx_16 {rt : List RtE} {ad : List Nat} (h : rt.length ≤ 16) : entryOf rt ad = (eIdx rt ad 16).bind (fun i => rt[i]?) := by
  have hs : ∀ k, eIdx rt ad (rt.length + k) = eIdx rt ad rt.length := by
    intro k
    induction k with
    | zero => rfl
    | succ k ih =>
      rw [← Nat.add_assoc, eIdx_s, ih, eStep, List.getElem?_eq_none (by omega)]
  have h1 := eIdx_of rt ad rt.length (Nat.le_refl _)
  rw [List.take_length] at h1
  rw [h1, show (16 : Nat) = rt.length + (16 - rt.length) by omega, hs]
set_option maxRecDepth 20000 in
theorem c_Swt_entryFor {G : Gt} {K N : Nat → Nat} {I : Nat → Nat → Int32} {R : Nat → Nat → Option Nat} {L : Nat → Nat → Int64} {E : Nat → Nat → Int32} {El : Nat → Nat → Int64} {Er : Nat → Nat → Option Nat} {Γ : Gm} {ρ : Nat → Nat} {s : Sa} (hR : RepN Γ ρ K N I R L E El Er s) {x : Nat} (hx : x < 6) (hrl : (sRt s x).length ≤ 16) (hro : ∀ e ∈ sRt s x, okRt s x e) {ad : List Nat} (had : ad8 ad) : CallR G m_Swt_entryFor 2 28 [.ref (Γ 1 x), .long (lN (leN ad))] (hN K N I R L E El Er) 0 0 (some (rfE Γ x (eIdx (sRt s x) ad 16))) (hN K N I R L E El Er) := by
  refine CallS.of (Nat.le_of_ble_eq_true rfl) ?_
  have L2 : ∀ (f k : Nat) (b : Option Nat), 16 - k < f → k ≤ 16 → b = eIdx (sRt s x) ad k → (∀ j, b = some j → j < (sRt s x).length) → WP G m_Swt_entryFor (2, 28, 0, 0, (hN K N I R L E El Er), fun r9 h9 => r9 = .inl (some (rfE Γ x (eIdx (sRt s x) ad 16))) ∧ h9 = (hN K N I R L E El Er)) 16 [(6, .int (nI k)), (5, .int (nI 16)), (4, .ref (Γ 2 x)), (3, rfE Γ x b), (0, .ref (Γ 1 x)), (1, .long (lN (leN ad)))] [] (hN K N I R L E El Er) 0 0 := by
    intro f
    induction f with
    | zero =>
      intro k b h1
      omega
    | succ f ih =>
      intro k b hf hk hb hbl
      cases b with
      | none =>
        show WP G m_Swt_entryFor (2, 28, 0, 0, (hN K N I R L E El Er), fun r9 h9 => r9 = .inl (some (rfE Γ x (eIdx (sRt s x) ad 16))) ∧ h9 = (hN K N I R L E El Er)) 16 [(6, .int (nI k)), (5, .int (nI 16)), (4, .ref (Γ 2 x)), (3, .null), (0, .ref (Γ 1 x)), (1, .long (lN (leN ad)))] [] (hN K N I R L E El Er) 0 0
        refine wp_iload d_Swt_entryFor_16 0 rfl ?_
        refine wp_iload d_Swt_entryFor_18 1 rfl ?_
        refine wp_geN (tgt := 69) d_Swt_entryFor_20 (by decide) (by omega) (by omega) (fun c20 => ?_) (fun c20 => ?_)
        · refine wp_aload_nN d_Swt_entryFor_69 rfl 3 rfl ?_
          exact wp_aret d_Swt_entryFor_70 rfl (Or.inl ⟨_, rfl⟩) (Or.inl rfl) ⟨by rw [show k = 16 by omega] at hb; rw [← hb]; rfl, rfl⟩
        · cases hek : (sRt s x)[k]? with
          | none =>
            refine wp_aload d_Swt_entryFor_23 2 rfl ?_
            refine wp_iload d_Swt_entryFor_25 0 rfl ?_
            refine wn_ald (x := none) d_Swt_entryFor_27 ((hR.sw x hx).2.2.2.2.2.2.1) rfl (by decide) (by rw [(hR.sw x hx).2.2.2.2.2.2.2.1]; omega) (by rw [(hR.sw x hx).2.2.2.2.2.2.2.1]; omega) (((hR.en x hx k (by omega)).1 hek)) ?_
            refine wp_astoreN (lv' := [(7, .null), (6, .int (nI k)), (5, .int (nI 16)), (4, .ref (Γ 2 x)), (3, .null), (0, .ref (Γ 1 x)), (1, .long (lN (leN ad)))]) d_Swt_entryFor_28 (by decide) rfl ?_
            refine wp_aloadN d_Swt_entryFor_30 0 rfl ?_
            refine wp_ifnullN (tgt := 63) d_Swt_entryFor_32 (by decide) ?_
            refine wp_iinc (lv' := [(6, .int (nI (k + 1))), (7, .null), (5, .int (nI 16)), (4, .ref (Γ 2 x)), (3, .null), (0, .ref (Γ 1 x)), (1, .long (lN (leN ad)))]) d_Swt_entryFor_63 1 rfl (nI_1 _) (by decide) rfl ?_
            refine wp_goto (tgt := 16) d_Swt_entryFor_66 (by decide) ?_
            refine wp_lv [0, 2, 3, 4, 5, 6] rfl ?_
            exact ih (k + 1) none (by omega) (by omega) (by rw [eIdx_s, ← hb]; simp only [eStep, hek]; first | done | (simp [c41]; done) | (simp [c41, hej]; omega)) (fun j hj => by cases hj)
          | some e =>
            obtain ⟨eek, een⟩ := (hR.en x hx k (by omega)).2 e hek
            have eok := hro e (List.mem_of_getElem? hek)
            refine wp_aload d_Swt_entryFor_23 2 rfl ?_
            refine wp_iload d_Swt_entryFor_25 0 rfl ?_
            refine wn_ald (x := some (Γ 5 (16 * x + k))) d_Swt_entryFor_27 ((hR.sw x hx).2.2.2.2.2.2.1) rfl (by decide) (by rw [(hR.sw x hx).2.2.2.2.2.2.2.1]; omega) (by rw [(hR.sw x hx).2.2.2.2.2.2.2.1]; omega) (eek) ?_
            refine wp_astore (lv' := [(7, .ref (Γ 5 (16 * x + k))), (6, .int (nI k)), (5, .int (nI 16)), (4, .ref (Γ 2 x)), (3, .null), (0, .ref (Γ 1 x)), (1, .long (lN (leN ad)))]) d_Swt_entryFor_28 (by decide) rfl ?_
            refine wp_aload d_Swt_entryFor_30 0 rfl ?_
            refine wp_ifnull d_Swt_entryFor_32 ?_
            refine wp_aload d_Swt_entryFor_35 0 rfl ?_
            refine wp_lload_n d_Swt_entryFor_37 rfl 6 rfl ?_
            refine wp_callV (r := 0) d_Swt_entryFor_38 (link_V (as := [.long (lN (leN ad))]) (rest := []) (r := (R_Ent, T_Ent, 4)) d_Swt_entryFor_38 cal_Ent_begins wM_Swt_38 rfl (hN_o (een.1) (by decide)) rfl) cal_Ent_begins (c_Ent_begins had een ⟨eok.1, eok.2.1⟩ eok.2.2.1) (Nat.le_of_ble_eq_true rfl) ⟨Nat.le_of_ble_eq_true rfl, Nat.le_of_ble_eq_true rfl⟩ ?_
            refine wp_if_eqB (tgt := 63) d_Swt_entryFor_41 (by decide) (fun c41 => ?_) (fun c41 => ?_)
            · refine wp_iinc (lv' := [(6, .int (nI (k + 1))), (7, .ref (Γ 5 (16 * x + k))), (5, .int (nI 16)), (4, .ref (Γ 2 x)), (3, .null), (0, .ref (Γ 1 x)), (1, .long (lN (leN ad)))]) d_Swt_entryFor_63 1 rfl (nI_1 _) (by decide) rfl ?_
              refine wp_goto (tgt := 16) d_Swt_entryFor_66 (by decide) ?_
              refine wp_lv [0, 2, 3, 4, 5, 6] rfl ?_
              exact ih (k + 1) none (by omega) (by omega) (by rw [eIdx_s, ← hb]; simp only [eStep, hek]; first | done | (simp [c41]; done) | (simp [c41, hej]; omega)) (fun j hj => by cases hj)
            · refine wp_aload_nN d_Swt_entryFor_44 rfl 4 rfl ?_
              refine wp_ifnullN (tgt := 60) d_Swt_entryFor_45 (by decide) ?_
              refine wp_aload d_Swt_entryFor_60 0 rfl ?_
              refine wp_astore_n (lv' := [(3, .ref (Γ 5 (16 * x + k))), (7, .ref (Γ 5 (16 * x + k))), (6, .int (nI k)), (5, .int (nI 16)), (4, .ref (Γ 2 x)), (0, .ref (Γ 1 x)), (1, .long (lN (leN ad)))]) d_Swt_entryFor_62 rfl (by decide) rfl ?_
              refine wp_iinc (lv' := [(6, .int (nI (k + 1))), (3, .ref (Γ 5 (16 * x + k))), (7, .ref (Γ 5 (16 * x + k))), (5, .int (nI 16)), (4, .ref (Γ 2 x)), (0, .ref (Γ 1 x)), (1, .long (lN (leN ad)))]) d_Swt_entryFor_63 2 rfl (nI_1 _) (by decide) rfl ?_
              refine wp_goto (tgt := 16) d_Swt_entryFor_66 (by decide) ?_
              refine wp_lv [0, 3, 4, 1, 5, 6] rfl ?_
              exact ih (k + 1) (some k) (by omega) (by omega) (by rw [eIdx_s, ← hb]; simp only [eStep, hek]; first | done | (simp [c41]; done) | (simp [c41, hej]; omega)) (fun j hj => by cases hj; exact (List.getElem?_eq_some_iff.mp hek).1)
      | some j =>
        show WP G m_Swt_entryFor (2, 28, 0, 0, (hN K N I R L E El Er), fun r9 h9 => r9 = .inl (some (rfE Γ x (eIdx (sRt s x) ad 16))) ∧ h9 = (hN K N I R L E El Er)) 16 [(6, .int (nI k)), (5, .int (nI 16)), (4, .ref (Γ 2 x)), (3, .ref (Γ 5 (16 * x + j))), (0, .ref (Γ 1 x)), (1, .long (lN (leN ad)))] [] (hN K N I R L E El Er) 0 0
        obtain ⟨ej, hej⟩ := get_of (hbl j rfl)
        have hj16 : j < 16 := by have := hbl j rfl; omega
        obtain ⟨eej, jen⟩ := (hR.en x hx j hj16).2 ej hej
        have jok := hro ej (List.mem_of_getElem? hej)
        have j8 := jok.2.1
        refine wp_iload d_Swt_entryFor_16 0 rfl ?_
        refine wp_iload d_Swt_entryFor_18 1 rfl ?_
        refine wp_geN (tgt := 69) d_Swt_entryFor_20 (by decide) (by omega) (by omega) (fun c20 => ?_) (fun c20 => ?_)
        · refine wp_aload_n d_Swt_entryFor_69 rfl 3 rfl ?_
          exact wp_aret d_Swt_entryFor_70 rfl (Or.inl ⟨_, rfl⟩) (Or.inr ⟨_, rfl⟩) ⟨by rw [show k = 16 by omega] at hb; rw [← hb]; rfl, rfl⟩
        · cases hek : (sRt s x)[k]? with
          | none =>
            refine wp_aload d_Swt_entryFor_23 2 rfl ?_
            refine wp_iload d_Swt_entryFor_25 0 rfl ?_
            refine wn_ald (x := none) d_Swt_entryFor_27 ((hR.sw x hx).2.2.2.2.2.2.1) rfl (by decide) (by rw [(hR.sw x hx).2.2.2.2.2.2.2.1]; omega) (by rw [(hR.sw x hx).2.2.2.2.2.2.2.1]; omega) (((hR.en x hx k (by omega)).1 hek)) ?_
            refine wp_astoreN (lv' := [(7, .null), (6, .int (nI k)), (5, .int (nI 16)), (4, .ref (Γ 2 x)), (3, .ref (Γ 5 (16 * x + j))), (0, .ref (Γ 1 x)), (1, .long (lN (leN ad)))]) d_Swt_entryFor_28 (by decide) rfl ?_
            refine wp_aloadN d_Swt_entryFor_30 0 rfl ?_
            refine wp_ifnullN (tgt := 63) d_Swt_entryFor_32 (by decide) ?_
            refine wp_iinc (lv' := [(6, .int (nI (k + 1))), (7, .null), (5, .int (nI 16)), (4, .ref (Γ 2 x)), (3, .ref (Γ 5 (16 * x + j))), (0, .ref (Γ 1 x)), (1, .long (lN (leN ad)))]) d_Swt_entryFor_63 1 rfl (nI_1 _) (by decide) rfl ?_
            refine wp_goto (tgt := 16) d_Swt_entryFor_66 (by decide) ?_
            refine wp_lv [0, 2, 3, 4, 5, 6] rfl ?_
            exact ih (k + 1) (some j) (by omega) (by omega) (by rw [eIdx_s, ← hb]; simp only [eStep, hek]; first | done | (simp [c41]; done) | (simp [c41, hej]; omega)) hbl
          | some e =>
            obtain ⟨eek, een⟩ := (hR.en x hx k (by omega)).2 e hek
            have eok := hro e (List.mem_of_getElem? hek)
            refine wp_aload d_Swt_entryFor_23 2 rfl ?_
            refine wp_iload d_Swt_entryFor_25 0 rfl ?_
            refine wn_ald (x := some (Γ 5 (16 * x + k))) d_Swt_entryFor_27 ((hR.sw x hx).2.2.2.2.2.2.1) rfl (by decide) (by rw [(hR.sw x hx).2.2.2.2.2.2.2.1]; omega) (by rw [(hR.sw x hx).2.2.2.2.2.2.2.1]; omega) (eek) ?_
            refine wp_astore (lv' := [(7, .ref (Γ 5 (16 * x + k))), (6, .int (nI k)), (5, .int (nI 16)), (4, .ref (Γ 2 x)), (3, .ref (Γ 5 (16 * x + j))), (0, .ref (Γ 1 x)), (1, .long (lN (leN ad)))]) d_Swt_entryFor_28 (by decide) rfl ?_
            refine wp_aload d_Swt_entryFor_30 0 rfl ?_
            refine wp_ifnull d_Swt_entryFor_32 ?_
            refine wp_aload d_Swt_entryFor_35 0 rfl ?_
            refine wp_lload_n d_Swt_entryFor_37 rfl 6 rfl ?_
            refine wp_callV (r := 0) d_Swt_entryFor_38 (link_V (as := [.long (lN (leN ad))]) (rest := []) (r := (R_Ent, T_Ent, 4)) d_Swt_entryFor_38 cal_Ent_begins wM_Swt_38 rfl (hN_o (een.1) (by decide)) rfl) cal_Ent_begins (c_Ent_begins had een ⟨eok.1, eok.2.1⟩ eok.2.2.1) (Nat.le_of_ble_eq_true rfl) ⟨Nat.le_of_ble_eq_true rfl, Nat.le_of_ble_eq_true rfl⟩ ?_
            refine wp_if_eqB (tgt := 63) d_Swt_entryFor_41 (by decide) (fun c41 => ?_) (fun c41 => ?_)
            · refine wp_iinc (lv' := [(6, .int (nI (k + 1))), (7, .ref (Γ 5 (16 * x + k))), (5, .int (nI 16)), (4, .ref (Γ 2 x)), (3, .ref (Γ 5 (16 * x + j))), (0, .ref (Γ 1 x)), (1, .long (lN (leN ad)))]) d_Swt_entryFor_63 1 rfl (nI_1 _) (by decide) rfl ?_
              refine wp_goto (tgt := 16) d_Swt_entryFor_66 (by decide) ?_
              refine wp_lv [0, 2, 3, 4, 5, 6] rfl ?_
              exact ih (k + 1) (some j) (by omega) (by omega) (by rw [eIdx_s, ← hb]; simp only [eStep, hek]; first | done | (simp [c41]; done) | (simp [c41, hej]; omega)) hbl
            · refine wp_aload_n d_Swt_entryFor_44 rfl 4 rfl ?_
              refine wp_ifnull d_Swt_entryFor_45 ?_
              have e8 := eok.2.1
              refine wp_aload d_Swt_entryFor_48 0 rfl ?_
              refine wn_get_Ent d_Swt_entryFor_50 (een.1) 1 (by decide) wF_Swt_42 rfl ?_
              refine wp_toI (z := (nI (e.1.length))) (een.2.2.1) ?_
              refine wp_aload_n d_Swt_entryFor_53 rfl 4 rfl ?_
              refine wn_get_Ent d_Swt_entryFor_54 (jen.1) 1 (by decide) wF_Swt_42 rfl ?_
              refine wp_toI (z := (nI (ej.1.length))) (jen.2.2.1) ?_
              refine wp_leN (tgt := 63) d_Swt_entryFor_57 (by decide) (by omega) (by omega) (fun c57 => ?_) (fun c57 => ?_)
              · refine wp_iinc (lv' := [(6, .int (nI (k + 1))), (7, .ref (Γ 5 (16 * x + k))), (5, .int (nI 16)), (4, .ref (Γ 2 x)), (3, .ref (Γ 5 (16 * x + j))), (0, .ref (Γ 1 x)), (1, .long (lN (leN ad)))]) d_Swt_entryFor_63 1 rfl (nI_1 _) (by decide) rfl ?_
                refine wp_goto (tgt := 16) d_Swt_entryFor_66 (by decide) ?_
                refine wp_lv [0, 2, 3, 4, 5, 6] rfl ?_
                exact ih (k + 1) (some j) (by omega) (by omega) (by rw [eIdx_s, ← hb]; simp only [eStep, hek]; first | done | (simp [c41]; done) | (simp [c41, hej]; omega)) hbl
              · refine wp_aload d_Swt_entryFor_60 0 rfl ?_
                refine wp_astore_n (lv' := [(3, .ref (Γ 5 (16 * x + k))), (7, .ref (Γ 5 (16 * x + k))), (6, .int (nI k)), (5, .int (nI 16)), (4, .ref (Γ 2 x)), (0, .ref (Γ 1 x)), (1, .long (lN (leN ad)))]) d_Swt_entryFor_62 rfl (by decide) rfl ?_
                refine wp_iinc (lv' := [(6, .int (nI (k + 1))), (3, .ref (Γ 5 (16 * x + k))), (7, .ref (Γ 5 (16 * x + k))), (5, .int (nI 16)), (4, .ref (Γ 2 x)), (0, .ref (Γ 1 x)), (1, .long (lN (leN ad)))]) d_Swt_entryFor_63 2 rfl (nI_1 _) (by decide) rfl ?_
                refine wp_goto (tgt := 16) d_Swt_entryFor_66 (by decide) ?_
                refine wp_lv [0, 3, 4, 1, 5, 6] rfl ?_
                exact ih (k + 1) (some k) (by omega) (by omega) (by rw [eIdx_s, ← hb]; simp only [eStep, hek]; first | done | (simp [c41]; done) | (simp [c41, hej]; omega)) (fun j hj => by cases hj; exact (List.getElem?_eq_some_iff.mp hek).1)
  refine wp_null d_Swt_entryFor_0 ?_
  refine wp_astore_nN (lv' := [(3, .null), (0, .ref (Γ 1 x)), (1, .long (lN (leN ad)))]) d_Swt_entryFor_1 rfl (by decide) rfl ?_
  refine wp_aload_n d_Swt_entryFor_2 rfl 1 rfl ?_
  refine wn_get_Swt d_Swt_entryFor_3 ((hR.sw x hx).2.1) 0 (by decide) wF_Swt_11 rfl ?_
  refine wp_toVR (o := some (Γ 2 x)) (z := .ref (Γ 2 x)) ((hR.sw x hx).2.2.2.1) rfl ?_
  refine wp_astore (lv' := [(4, .ref (Γ 2 x)), (3, .null), (0, .ref (Γ 1 x)), (1, .long (lN (leN ad)))]) d_Swt_entryFor_6 (by decide) rfl ?_
  refine wp_aload d_Swt_entryFor_8 0 rfl ?_
  refine wn_len (len := 16) d_Swt_entryFor_10 ((hR.sw x hx).2.2.2.2.2.2.1) rfl ((hR.sw x hx).2.2.2.2.2.2.2.1) ?_
  refine wp_istore (lv' := [(5, .int (nI 16)), (4, .ref (Γ 2 x)), (3, .null), (0, .ref (Γ 1 x)), (1, .long (lN (leN ad)))]) d_Swt_entryFor_11 (by decide) rfl ?_
  refine wp_iconst (v := nI 0) d_Swt_entryFor_13 (by decide) ?_
  refine wp_istore (lv' := [(6, .int (nI 0)), (5, .int (nI 16)), (4, .ref (Γ 2 x)), (3, .null), (0, .ref (Γ 1 x)), (1, .long (lN (leN ad)))]) d_Swt_entryFor_14 (by decide) rfl ?_
  exact L2 17 0 none (by omega) (by omega) rfl (fun j hj => by cases hj)
set_option maxRecDepth 20000 in
theorem c_Net_isOpenA {G : Gt} {K N : Nat → Nat} {I : Nat → Nat → Int32} {R : Nat → Nat → Option Nat} {L : Nat → Nat → Int64} {E : Nat → Nat → Int32} {El : Nat → Nat → Int64} {Er : Nat → Nat → Option Nat} {o : Nat} {z : Int32} : CallR G m_Net_isOpen 0 0 [.ref o, .int z, .int z] (hN K N I R L E El Er) 0 0 (some (.int (bI false))) (hN K N I R L E El Er) := by
  refine CallS.of (Nat.le_of_ble_eq_true rfl) ?_
  refine wp_iload_n d_Net_isOpen_0 rfl 1 rfl ?_
  refine wp_iload_n d_Net_isOpen_1 rfl 2 rfl ?_
  refine wp_icmp_eq (tgt := 29) d_Net_isOpen_2 (by decide) (fun c2 => ?_) (fun c2 => ?_)
  · refine wp_iconst (v := nI 0) d_Net_isOpen_29 (by decide) ?_
    exact wp_zret (ty := .boolean) d_Net_isOpen_30 rfl rfl ⟨resI (bI_zero (rfl)), rfl⟩
  · exact absurd rfl c2
set_option maxRecDepth 20000 in
theorem c_Net_isOpenB {G : Gt} {K N : Nat → Nat} {I : Nat → Nat → Int32} {R : Nat → Nat → Option Nat} {L : Nat → Nat → Int64} {E : Nat → Nat → Int32} {El : Nat → Nat → Int64} {Er : Nat → Nat → Option Nat} {Γ : Gm} {ρ : Nat → Nat} {s : Sa} (hR : RepN Γ ρ K N I R L E El Er s) {x z : Int32} (hne : ¬ x = z) (hx : hasB (lnB s) x = false) : CallR G m_Net_isOpen 1 13 [.ref (Γ 0 0), .int x, .int z] (hN K N I R L E El Er) 0 0 (some (.int (bI false))) (hN K N I R L E El Er) := by
  refine CallS.of (Nat.le_of_ble_eq_true rfl) ?_
  refine wp_iload_n d_Net_isOpen_0 rfl 1 rfl ?_
  refine wp_iload_n d_Net_isOpen_1 rfl 2 rfl ?_
  refine wp_icmp_eq (tgt := 29) d_Net_isOpen_2 (by decide) (fun c2 => ?_) (fun c2 => ?_)
  · refine wp_iconst (v := nI 0) d_Net_isOpen_29 (by decide) ?_
    exact wp_zret (ty := .boolean) d_Net_isOpen_30 rfl rfl ⟨resI (bI_zero (rfl)), rfl⟩
  · refine wp_aload_n d_Net_isOpen_5 rfl 0 rfl ?_
    refine wp_iload_n d_Net_isOpen_6 rfl 1 rfl ?_
    refine wp_callV (r := 0) d_Net_isOpen_7 (link_V (as := [.int x]) (rest := []) (r := (R_Net, T_Net, 7)) d_Net_isOpen_7 cal_Net_isLine wM_Net_272 rfl (hN_o (hR.nt.1) (by decide)) rfl) cal_Net_isLine (CallR.eq (c_Net_isLine hR x) (by rw [hx]) rfl) (Nat.le_of_ble_eq_true rfl) ⟨Nat.le_of_ble_eq_true rfl, Nat.le_of_ble_eq_true rfl⟩ ?_
    refine wp_if_eqB (tgt := 29) d_Net_isOpen_10 (by decide) (fun _ => ?_) (fun c => absurd c (by decide))
    refine wp_iconst (v := nI 0) d_Net_isOpen_29 (by decide) ?_
    exact wp_zret (ty := .boolean) d_Net_isOpen_30 rfl rfl ⟨resI (bI_zero (rfl)), rfl⟩
set_option maxRecDepth 20000 in
theorem c_Net_isOpenC {G : Gt} {K N : Nat → Nat} {I : Nat → Nat → Int32} {R : Nat → Nat → Option Nat} {L : Nat → Nat → Int64} {E : Nat → Nat → Int32} {El : Nat → Nat → Int64} {Er : Nat → Nat → Option Nat} {Γ : Gm} {ρ : Nat → Nat} {s : Sa} (hR : RepN Γ ρ K N I R L E El Er s) {l a b : Nat} {v : Bool} (hl : l < 8) (hv : sLn s l = some (a, b, v)) {z : Int32} (hne : ¬ nI l = z) : CallR G m_Net_isOpen 1 13 [.ref (Γ 0 0), .int (nI l), .int z] (hN K N I R L E El Er) 0 0 (some (.int (bI v))) (hN K N I R L E El Er) := by
  refine CallS.of (Nat.le_of_ble_eq_true rfl) ?_
  refine wp_iload_n d_Net_isOpen_0 rfl 1 rfl ?_
  refine wp_iload_n d_Net_isOpen_1 rfl 2 rfl ?_
  refine wp_icmp_eq (tgt := 29) d_Net_isOpen_2 (by decide) (fun c2 => ?_) (fun c2 => ?_)
  · exact absurd c2 hne
  · refine wp_aload_n d_Net_isOpen_5 rfl 0 rfl ?_
    refine wp_iload_n d_Net_isOpen_6 rfl 1 rfl ?_
    refine wp_callV (r := 0) d_Net_isOpen_7 (link_V (as := [.int (nI l)]) (rest := []) (r := (R_Net, T_Net, 7)) d_Net_isOpen_7 cal_Net_isLine wM_Net_272 rfl (hN_o (hR.nt.1) (by decide)) rfl) cal_Net_isLine (c_Net_isLine1 hR hl hv) (Nat.le_of_ble_eq_true rfl) ⟨Nat.le_of_ble_eq_true rfl, Nat.le_of_ble_eq_true rfl⟩ ?_
    refine wp_if_eqB (tgt := 29) d_Net_isOpen_10 (by decide) (fun c => absurd c (by decide)) (fun _ => ?_)
    refine wp_aload_n d_Net_isOpen_13 rfl 0 rfl ?_
    refine wn_get_Net d_Net_isOpen_14 (hR.nt.1) 2 (by decide) wF_Net_24 rfl ?_
    refine wp_toVR (o := some (Γ 0 5)) (z := .ref (Γ 0 5)) (hR.nt.2.2.2.1) rfl ?_
    refine wp_iload_n d_Net_isOpen_17 rfl 1 rfl ?_
    refine wn_ald (x := some (Γ 6 l)) d_Net_isOpen_18 (hR.nt.2.2.2.2.2.2.2.2.2.2.1) rfl (by decide) (by rw [hR.nt.2.2.2.2.2.2.2.2.2.2.2.1]; omega) (by rw [hR.nt.2.2.2.2.2.2.2.2.2.2.2.1]; omega) (((hR.li l hl).2 _ _ _ hv).1) ?_
    refine wn_get_Lin d_Net_isOpen_19 (((hR.li l hl).2 _ _ _ hv).2.1) 4 (by decide) wF_Net_135 rfl ?_
    refine wp_toI (z := (bI v)) (((hR.li l hl).2 _ _ _ hv).2.2.2.2.2.2.2) ?_
    refine wp_if_eqB (tgt := 29) d_Net_isOpen_22 (by decide) (fun c22 => ?_) (fun c22 => ?_)
    · refine wp_iconst (v := nI 0) d_Net_isOpen_29 (by decide) ?_
      exact wp_zret (ty := .boolean) d_Net_isOpen_30 rfl rfl ⟨resI (bI_zero (c22)), rfl⟩
    · refine wp_iconst (v := nI 1) d_Net_isOpen_25 (by decide) ?_
      refine wp_goto (tgt := 30) d_Net_isOpen_26 (by decide) ?_
      exact wp_zret (ty := .boolean) d_Net_isOpen_30 rfl rfl ⟨resI (bI_one (c22)), rfl⟩
theorem takesB_some (s : Sa) (j by1 : Nat) : takesB s (some j) by1 = (!(j + 1 == by1) && serves s j) := rfl
theorem cbI_s (k : Nat) : cbI (k + 1) = nI k := rfl
theorem c_Net_isOpen {G : Gt} {K N : Nat → Nat} {I : Nat → Nat → Int32} {R : Nat → Nat → Option Nat} {L : Nat → Nat → Int64} {E : Nat → Nat → Int32} {El : Nat → Nat → Int64} {Er : Nat → Nat → Option Nat} {Γ : Gm} {ρ : Nat → Nat} {s : Sa} (hR : RepN Γ ρ K N I R L E El Er s) {m : Option Nat} {by1 : Nat} (hm : ∀ j, m = some j → j < 8) (hby : by1 ≤ 8) : CallR G m_Net_isOpen 1 13 [.ref (Γ 0 0), .int (o2i m), .int (cbI by1)] (hN K N I R L E El Er) 0 0 (some (.int (bI (takesB s m by1)))) (hN K N I R L E El Er) := by
  cases m with
  | none =>
    cases by1 with
    | zero => exact CallR.up (c_Net_isOpenA (z := -1)) (by decide) (by decide)
    | succ k => exact CallR.up (c_Net_isOpenB hR (x := -1) (z := nI k) (fun e => nI_m1 (by omega) e.symm) (by rfl)) (by decide) (by decide)
  | some j =>
    have hj := hm j rfl
    rw [takesB_some]
    by_cases hjb : j + 1 = by1
    · subst hjb
      rw [show (!(j + 1 == j + 1) && serves s j) = false by simp]
      exact CallR.up (c_Net_isOpenA (z := nI j)) (by decide) (by decide)
    · have hne : ¬ nI j = cbI by1 := by
        cases by1 with
        | zero => exact nI_m1 (by omega)
        | succ k => exact fun e => hjb (by rw [(nI_eq (by omega) (by omega)).mp e])
      rw [show (j + 1 == by1) = false from beq_eq_false_iff_ne.mpr hjb]
      cases hv : sLn s j with
      | none =>
        rw [show serves s j = false by unfold serves; rw [hv]]
        exact CallR.up (c_Net_isOpenB hR (x := nI j) hne (by unfold hasB; rw [nI_clamp (by omega)]; simp [lnB, hv])) (by decide) (by decide)
      | some q =>
        obtain ⟨a, b, v⟩ := q
        rw [show serves s j = v by unfold serves; rw [hv]; cases v <;> rfl]
        exact CallR.up (c_Net_isOpenC hR hj hv hne) (by decide) (by decide)
set_option maxRecDepth 20000 in
theorem c_Swt_deliver0 {G : Gt} {K N : Nat → Nat} {I : Nat → Nat → Int32} {R : Nat → Nat → Option Nat} {L : Nat → Nat → Int64} {E : Nat → Nat → Int32} {El : Nat → Nat → Int64} {Er : Nat → Nat → Option Nat} {Γ : Gm} {ρ : Nat → Nat} {s : Sa} (hR : RepN Γ ρ K N I R L E El Er s) {j : Nat} {m : Nat × List (List Nat) × Nat × Nat} (hm : (sMs s)[j]? = some m) {x k : Nat} (hx : x < 6) (hb7 : sCm s (j + 1) < 2 ^ 7) (hk : k < 7) (hbit : (sCm s (j + 1)).testBit k = true) : CallR G m_Swt_deliver 1 13 [.ref (Γ 1 x), .ref (Γ 14 (j + 1)), .int (nI k), .int (nI x)] (hN K N I R L E El Er) 0 0 none (hN K N (u2 I 55 (Γ 1 x) (nI (sDb s x + 1))) R L E El Er) := by
  refine CallS.of (Nat.le_of_ble_eq_true rfl) ?_
  refine wp_aload_n d_Swt_deliver_0 rfl 1 rfl ?_
  refine wp_iload_n d_Swt_deliver_1 rfl 2 rfl ?_
  refine wp_callV (r := 0) d_Swt_deliver_2 (link_V (as := [.int (nI k)]) (rest := []) (r := (R_Msg, T_Msg, 5)) d_Swt_deliver_2 cal_Msg_hasArrived wM_Swt_45 rfl (hN_o ((hR.mg j _ hm).2.1) (by decide)) rfl) cal_Msg_hasArrived (CallR.eq (c_Msg_hasArrived (hR.mg j _ hm).2.1 (hR.mg j _ hm).2.2.2.2.2.2.1 hb7 hk) (by rw [hbit]) rfl) (Nat.le_of_ble_eq_true rfl) ⟨Nat.le_of_ble_eq_true rfl, Nat.le_of_ble_eq_true rfl⟩ ?_
  refine wp_if_eqB (tgt := 19) d_Swt_deliver_5 (by decide) (fun c => absurd c (by decide)) (fun _ => ?_)
  refine wp_aload_n d_Swt_deliver_8 rfl 0 rfl ?_
  refine wp_dup d_Swt_deliver_9 rfl ?_
  refine wn_get_Swt d_Swt_deliver_10 ((hR.sw x hx).2.1) 7 (by decide) wF_Swt_49 rfl ?_
  refine wp_toI (z := (nI (sDb s x))) ((hR.sw x hx).2.2.2.2.2.2.2.2.2.2.2.2.2.2.2.2) ?_
  refine wp_iconst (v := nI 1) d_Swt_deliver_13 (by decide) ?_
  refine wp_iaddN d_Swt_deliver_14 ?_
  refine wn_put_Swt (ty := t_Swt 7) (I' := u2 I 55 (Γ 1 x) (nI ((sDb s x) + 1))) (R' := R) (L' := L) d_Swt_deliver_15 ((hR.sw x hx).2.1) 7 (by decide) wF_Swt_49 rfl (t_Swt_ok 7 (by decide)) rfl rfl sF_55 (oI _ _ _ 55 _) ?_
  exact wp_vret d_Swt_deliver_18 rfl ⟨rfl, rfl⟩
set_option maxRecDepth 20000 in
theorem c_Swt_deliver1 {G : Gt} {K N : Nat → Nat} {I : Nat → Nat → Int32} {R : Nat → Nat → Option Nat} {L : Nat → Nat → Int64} {E : Nat → Nat → Int32} {El : Nat → Nat → Int64} {Er : Nat → Nat → Option Nat} {Γ : Gm} {ρ : Nat → Nat} {s : Sa} (hR : RepN Γ ρ K N I R L E El Er s) {j : Nat} {m : Nat × List (List Nat) × Nat × Nat} (hm : (sMs s)[j]? = some m) {x k : Nat} (hx : x < 6) (hb7 : sCm s (j + 1) < 2 ^ 7) (hk : k < 7) (hbit : (sCm s (j + 1)).testBit k = false) (hin : j + 1 ∈ sDk s x) : CallR G m_Swt_deliver 1 13 [.ref (Γ 1 x), .ref (Γ 14 (j + 1)), .int (nI k), .int (nI x)] (hN K N I R L E El Er) 0 0 none (hN K N (u2 I 46 (Γ 14 (j + 1)) (nI (sCm s (j + 1) + 2 ^ k))) R L E El Er) := by
  have h2k : 2 ^ k ≤ 2 ^ 6 := Nat.pow_le_pow_right (by decide) (by omega)
  have h2x : 2 ^ x ≤ 2 ^ 5 := Nat.pow_le_pow_right (by decide) (by omega)
  have hdl := dkB_lt (sDk s) (j + 1)
  have han := Nat.and_le_left (n := dkB (sDk s) (j + 1)) (m := 1 * 2 ^ x)
  refine CallS.of (Nat.le_of_ble_eq_true rfl) ?_
  refine wp_aload_n d_Swt_deliver_0 rfl 1 rfl ?_
  refine wp_iload_n d_Swt_deliver_1 rfl 2 rfl ?_
  refine wp_callV (r := 0) d_Swt_deliver_2 (link_V (as := [.int (nI k)]) (rest := []) (r := (R_Msg, T_Msg, 5)) d_Swt_deliver_2 cal_Msg_hasArrived wM_Swt_45 rfl (hN_o ((hR.mg j _ hm).2.1) (by decide)) rfl) cal_Msg_hasArrived (CallR.eq (c_Msg_hasArrived (hR.mg j _ hm).2.1 (hR.mg j _ hm).2.2.2.2.2.2.1 hb7 hk) (by rw [hbit]) rfl) (Nat.le_of_ble_eq_true rfl) ⟨Nat.le_of_ble_eq_true rfl, Nat.le_of_ble_eq_true rfl⟩ ?_
  refine wp_if_eqB (tgt := 19) d_Swt_deliver_5 (by decide) (fun _ => ?_) (fun c => absurd c (by decide))
  refine wp_aload_n d_Swt_deliver_19 rfl 1 rfl ?_
  refine wp_dup d_Swt_deliver_20 rfl ?_
  refine wn_get_Msg d_Swt_deliver_21 ((hR.mg j _ hm).2.1) 3 (by decide) wF_Swt_52 rfl ?_
  refine wp_toI (z := (nI (sCm s (j + 1)))) ((hR.mg j _ hm).2.2.2.2.2.2.1) ?_
  refine wp_iconst (v := nI 1) d_Swt_deliver_24 (by decide) ?_
  refine wp_iload_n d_Swt_deliver_25 rfl 2 rfl ?_
  refine wp_ishlN d_Swt_deliver_26 (by omega) (by omega) ?_
  refine wp_iorN d_Swt_deliver_27 ?_
  refine wp_toI (z := (nI (sCm s (j + 1) + 2 ^ k))) (congrArg nI (by rw [Nat.one_mul]; exact or_bit hbit)) ?_
  refine wn_put_Msg (ty := t_Msg 3) (I' := u2 I 46 (Γ 14 (j + 1)) (nI (sCm s (j + 1) + 2 ^ k))) (R' := R) (L' := L) d_Swt_deliver_28 ((hR.mg j _ hm).2.1) 3 (by decide) wF_Swt_52 rfl (t_Msg_ok 3 (by decide)) rfl rfl sF_46 (oI _ _ _ 46 _) ?_
  refine wp_aload_n d_Swt_deliver_31 rfl 1 rfl ?_
  refine wn_get_Msg d_Swt_deliver_32 ((hR.mg j _ hm).2.1) 4 (by decide) wF_Swt_55 rfl ?_
  refine wp_toI (z := (nI (dkB (sDk s) (j + 1)))) (by rw [u2_ne _ _ (by decide)]; exact (hR.mg j _ hm).2.2.2.2.2.2.2.1) ?_
  refine wp_iconst (v := nI 1) d_Swt_deliver_35 (by decide) ?_
  refine wp_iload_n d_Swt_deliver_36 rfl 3 rfl ?_
  refine wp_ishlN d_Swt_deliver_37 (by omega) (by omega) ?_
  refine wp_iandN d_Swt_deliver_38 ?_
  refine wp_if_neN (tgt := 46) d_Swt_deliver_39 (by decide) (by omega) (fun c39 => ?_) (fun c39 => ?_)
  · refine wp_iconst (v := nI 0) d_Swt_deliver_46 (by decide) ?_
    refine wp_istore (lv' := [(4, .int (nI 0)), (0, .ref (Γ 1 x)), (1, .ref (Γ 14 (j + 1))), (2, .int (nI k)), (3, .int (nI x))]) d_Swt_deliver_47 (by decide) rfl ?_
    refine wp_iload d_Swt_deliver_49 0 rfl ?_
    refine wp_if_eqN (tgt := 96) d_Swt_deliver_51 (by decide) (by omega) (fun _ => ?_) (fun c => absurd c (by decide))
    exact wp_vret d_Swt_deliver_96 rfl ⟨rfl, rfl⟩
  · exact absurd ((and_pw _ _).mp c39) (by rw [dkB_bit _ _ hx, decide_eq_true hin]; decide)
set_option maxRecDepth 20000 in
theorem c_Swt_deliver2 {G : Gt} {K N : Nat → Nat} {I : Nat → Nat → Int32} {R : Nat → Nat → Option Nat} {L : Nat → Nat → Int64} {E : Nat → Nat → Int32} {El : Nat → Nat → Int64} {Er : Nat → Nat → Option Nat} {Γ : Gm} {ρ : Nat → Nat} {s : Sa} (hR : RepN Γ ρ K N I R L E El Er s) {j : Nat} {m : Nat × List (List Nat) × Nat × Nat} (hm : (sMs s)[j]? = some m) {x k : Nat} (hx : x < 6) (hb7 : sCm s (j + 1) < 2 ^ 7) (hk : k < 7) (hbit : (sCm s (j + 1)).testBit k = false) (hin : j + 1 ∉ sDk s x) (hroom : (sDk s x).length < 200) : CallR G m_Swt_deliver 1 13 [.ref (Γ 1 x), .ref (Γ 14 (j + 1)), .int (nI k), .int (nI x)] (hN K N I R L E El Er) 0 0 none (hN K N (u2 (u2 (u2 I 46 (Γ 14 (j + 1)) (nI (sCm s (j + 1) + 2 ^ k))) 47 (Γ 14 (j + 1)) (nI (dkB (sDk s) (j + 1) + 2 ^ x))) 52 (Γ 1 x) (nI ((sDk s x).length + 1))) R L E El (u2r Er (Γ 3 x) (sDk s x).length (some (Γ 14 (j + 1))))) := by
  have h2k : 2 ^ k ≤ 2 ^ 6 := Nat.pow_le_pow_right (by decide) (by omega)
  have h2x : 2 ^ x ≤ 2 ^ 5 := Nat.pow_le_pow_right (by decide) (by omega)
  have hdl := dkB_lt (sDk s) (j + 1)
  have han := Nat.and_le_left (n := dkB (sDk s) (j + 1)) (m := 1 * 2 ^ x)
  refine CallS.of (Nat.le_of_ble_eq_true rfl) ?_
  refine wp_aload_n d_Swt_deliver_0 rfl 1 rfl ?_
  refine wp_iload_n d_Swt_deliver_1 rfl 2 rfl ?_
  refine wp_callV (r := 0) d_Swt_deliver_2 (link_V (as := [.int (nI k)]) (rest := []) (r := (R_Msg, T_Msg, 5)) d_Swt_deliver_2 cal_Msg_hasArrived wM_Swt_45 rfl (hN_o ((hR.mg j _ hm).2.1) (by decide)) rfl) cal_Msg_hasArrived (CallR.eq (c_Msg_hasArrived (hR.mg j _ hm).2.1 (hR.mg j _ hm).2.2.2.2.2.2.1 hb7 hk) (by rw [hbit]) rfl) (Nat.le_of_ble_eq_true rfl) ⟨Nat.le_of_ble_eq_true rfl, Nat.le_of_ble_eq_true rfl⟩ ?_
  refine wp_if_eqB (tgt := 19) d_Swt_deliver_5 (by decide) (fun _ => ?_) (fun c => absurd c (by decide))
  refine wp_aload_n d_Swt_deliver_19 rfl 1 rfl ?_
  refine wp_dup d_Swt_deliver_20 rfl ?_
  refine wn_get_Msg d_Swt_deliver_21 ((hR.mg j _ hm).2.1) 3 (by decide) wF_Swt_52 rfl ?_
  refine wp_toI (z := (nI (sCm s (j + 1)))) ((hR.mg j _ hm).2.2.2.2.2.2.1) ?_
  refine wp_iconst (v := nI 1) d_Swt_deliver_24 (by decide) ?_
  refine wp_iload_n d_Swt_deliver_25 rfl 2 rfl ?_
  refine wp_ishlN d_Swt_deliver_26 (by omega) (by omega) ?_
  refine wp_iorN d_Swt_deliver_27 ?_
  refine wp_toI (z := (nI (sCm s (j + 1) + 2 ^ k))) (congrArg nI (by rw [Nat.one_mul]; exact or_bit hbit)) ?_
  refine wn_put_Msg (ty := t_Msg 3) (I' := u2 I 46 (Γ 14 (j + 1)) (nI (sCm s (j + 1) + 2 ^ k))) (R' := R) (L' := L) d_Swt_deliver_28 ((hR.mg j _ hm).2.1) 3 (by decide) wF_Swt_52 rfl (t_Msg_ok 3 (by decide)) rfl rfl sF_46 (oI _ _ _ 46 _) ?_
  refine wp_aload_n d_Swt_deliver_31 rfl 1 rfl ?_
  refine wn_get_Msg d_Swt_deliver_32 ((hR.mg j _ hm).2.1) 4 (by decide) wF_Swt_55 rfl ?_
  refine wp_toI (z := (nI (dkB (sDk s) (j + 1)))) (by rw [u2_ne _ _ (by decide)]; exact (hR.mg j _ hm).2.2.2.2.2.2.2.1) ?_
  refine wp_iconst (v := nI 1) d_Swt_deliver_35 (by decide) ?_
  refine wp_iload_n d_Swt_deliver_36 rfl 3 rfl ?_
  refine wp_ishlN d_Swt_deliver_37 (by omega) (by omega) ?_
  refine wp_iandN d_Swt_deliver_38 ?_
  refine wp_if_neN (tgt := 46) d_Swt_deliver_39 (by decide) (by omega) (fun c39 => ?_) (fun c39 => ?_)
  · exact absurd ((and_pw (dkB (sDk s) (j + 1)) x).mpr (by rw [dkB_bit _ _ hx]; exact decide_eq_false hin)) (by omega)
  · refine wp_iconst (v := nI 1) d_Swt_deliver_42 (by decide) ?_
    refine wp_goto (tgt := 47) d_Swt_deliver_43 (by decide) ?_
    refine wp_istore (lv' := [(4, .int (nI 1)), (0, .ref (Γ 1 x)), (1, .ref (Γ 14 (j + 1))), (2, .int (nI k)), (3, .int (nI x))]) d_Swt_deliver_47 (by decide) rfl ?_
    refine wp_iload d_Swt_deliver_49 0 rfl ?_
    refine wp_if_eqN (tgt := 96) d_Swt_deliver_51 (by decide) (by omega) (fun c => absurd c (by decide)) (fun _ => ?_)
    refine wp_aload_n d_Swt_deliver_54 rfl 1 rfl ?_
    refine wn_get_Swt d_Swt_deliver_55 ((hR.sw x hx).2.1) 4 (by decide) wF_Swt_58 rfl ?_
    refine wp_toI (z := (nI ((sDk s x).length))) (by rw [u2_ne _ _ (by decide)]; exact (hR.sw x hx).2.2.2.2.2.2.2.2.2.2.2.2.2.1) ?_
    refine wp_sipush (v := nI 200) d_Swt_deliver_58 (by decide) ?_
    refine wp_geN (tgt := 96) d_Swt_deliver_61 (by decide) (by omega) (by omega) (fun c61 => ?_) (fun c61 => ?_)
    · omega
    · refine wp_aload_n d_Swt_deliver_64 rfl 2 rfl ?_
      refine wp_dup d_Swt_deliver_65 rfl ?_
      refine wn_get_Msg d_Swt_deliver_66 ((hR.mg j _ hm).2.1) 4 (by decide) wF_Swt_55 rfl ?_
      refine wp_toI (z := (nI (dkB (sDk s) (j + 1)))) (by rw [u2_ne _ _ (by decide)]; exact (hR.mg j _ hm).2.2.2.2.2.2.2.1) ?_
      refine wp_iconst (v := nI 1) d_Swt_deliver_69 (by decide) ?_
      refine wp_iload_n d_Swt_deliver_70 rfl 4 rfl ?_
      refine wp_ishlN d_Swt_deliver_71 (by omega) (by omega) ?_
      refine wp_iorN d_Swt_deliver_72 ?_
      refine wp_toI (z := (nI (dkB (sDk s) (j + 1) + 2 ^ x))) (congrArg nI (by rw [Nat.one_mul]; exact or_bit (by rw [dkB_bit _ _ hx]; exact decide_eq_false hin))) ?_
      refine wn_put_Msg (ty := t_Msg 4) (I' := u2 (u2 I 46 (Γ 14 (j + 1)) (nI (sCm s (j + 1) + 2 ^ k))) 47 (Γ 14 (j + 1)) (nI (dkB (sDk s) (j + 1) + 2 ^ x))) (R' := R) (L' := L) d_Swt_deliver_73 ((hR.mg j _ hm).2.1) 4 (by decide) wF_Swt_55 rfl (t_Msg_ok 4 (by decide)) rfl rfl sF_47 (oI _ _ _ 47 _) ?_
      refine wp_aload_n d_Swt_deliver_76 rfl 1 rfl ?_
      refine wn_get_Swt d_Swt_deliver_77 ((hR.sw x hx).2.1) 1 (by decide) wF_Swt_19 rfl ?_
      refine wp_toVR (o := some (Γ 3 x)) (z := .ref (Γ 3 x)) ((hR.sw x hx).2.2.2.2.1) rfl ?_
      refine wp_aload_n d_Swt_deliver_80 rfl 1 rfl ?_
      refine wn_get_Swt d_Swt_deliver_81 ((hR.sw x hx).2.1) 4 (by decide) wF_Swt_58 rfl ?_
      refine wp_toI (z := (nI ((sDk s x).length))) (by rw [u2_ne _ _ (by decide), u2_ne _ _ (by decide)]; exact (hR.sw x hx).2.2.2.2.2.2.2.2.2.2.2.2.2.1) ?_
      refine wp_aload_n d_Swt_deliver_84 rfl 2 rfl ?_
      refine wn_ast d_Swt_deliver_85 ((hR.sw x hx).2.2.2.2.2.2.2.2.2.1) rfl (by decide) ((hR.mg j _ hm).2.1) (by decide) rfl (by rw [(hR.sw x hx).2.2.2.2.2.2.2.2.2.2.1]; omega) (by rw [(hR.sw x hx).2.2.2.2.2.2.2.2.2.2.1]; omega) ?_
      refine wp_aload_n d_Swt_deliver_86 rfl 1 rfl ?_
      refine wp_dup d_Swt_deliver_87 rfl ?_
      refine wn_get_Swt d_Swt_deliver_88 ((hR.sw x hx).2.1) 4 (by decide) wF_Swt_58 rfl ?_
      refine wp_toI (z := (nI ((sDk s x).length))) (by rw [u2_ne _ _ (by decide), u2_ne _ _ (by decide)]; exact (hR.sw x hx).2.2.2.2.2.2.2.2.2.2.2.2.2.1) ?_
      refine wp_iconst (v := nI 1) d_Swt_deliver_91 (by decide) ?_
      refine wp_iaddN d_Swt_deliver_92 ?_
      refine wn_put_Swt (ty := t_Swt 4) (I' := u2 (u2 (u2 I 46 (Γ 14 (j + 1)) (nI (sCm s (j + 1) + 2 ^ k))) 47 (Γ 14 (j + 1)) (nI (dkB (sDk s) (j + 1) + 2 ^ x))) 52 (Γ 1 x) (nI (((sDk s x).length) + 1))) (R' := R) (L' := L) d_Swt_deliver_93 ((hR.sw x hx).2.1) 4 (by decide) wF_Swt_58 rfl (t_Swt_ok 4 (by decide)) rfl rfl sF_52 (oI _ _ _ 52 _) ?_
      exact wp_vret d_Swt_deliver_96 rfl ⟨rfl, rfl⟩
theorem c_Swt_deliver {G : Gt} {K N : Nat → Nat} {I : Nat → Nat → Int32} {R : Nat → Nat → Option Nat} {L : Nat → Nat → Int64} {E : Nat → Nat → Int32} {El : Nat → Nat → Int64} {Er : Nat → Nat → Option Nat} {Γ : Gm} {ρ : Nat → Nat} {s : Sa} (hR : RepN Γ ρ K N I R L E El Er s) {j : Nat} {m : Nat × List (List Nat) × Nat × Nat} (hm : (sMs s)[j]? = some m) {x k : Nat} (hx : x < 6) (hC : CI s) (hk : k < cntOf s (j + 1)) : CallE G m_Swt_deliver 1 13 [.ref (Γ 1 x), .ref (Γ 14 (j + 1)), .int (nI k), .int (nI x)] (hN K N I R L E El Er) 0 0 none (fun h' => ∃ I' Er', h' = hN K N I' R L E El Er' ∧ RepN Γ ρ K N I' R L E El Er' (deliverS s x (j + 1) k) ∧ Kp K I R K I' R) := by
  have hj := (List.getElem?_eq_some_iff.mp hm).1
  have hb7 := hC.cm (j + 1)
  have hk7 : k < 7 := Nat.lt_of_lt_of_le hk (cnt_7 hC.2.2.1 (j + 1))
  unfold deliverS
  cases hbit : (sCm s (j + 1)).testBit k with
  | true =>
    rw [if_pos rfl]
    exact CallR.E (CallR.up (c_Swt_deliver0 hR hm hx hb7 hk7 hbit) (by decide) (by decide)) ⟨_, _, rfl, hR.db hx, Kp_u (by decide)⟩
  | false =>
    rw [if_neg (by decide)]
    dsimp only
    have hR1 := hR.cm (v := sCm s (j + 1) + 2 ^ k) hm
    by_cases hin : j + 1 ∈ sDk s x
    · rw [if_pos hin]
      exact CallR.E (CallR.up (c_Swt_deliver1 hR hm hx hb7 hk7 hbit hin) (by decide) (by decide)) ⟨_, _, rfl, hR1, Kp_u (by decide)⟩
    · rw [if_neg hin]
      have hR2 := hR1.desk (i := j) (x := x) hx hm hin
      exact CallR.E (CallR.up (c_Swt_deliver2 hR hm hx hb7 hk7 hbit hin (dk_room hC ⟨by omega, by omega⟩ hin)) (by decide) (by decide)) ⟨_, _, rfl, hR2, ((Kp_u (by decide)).tr (Kp_u (by decide))).tr (Kp_u (by decide))⟩
end Cls21
