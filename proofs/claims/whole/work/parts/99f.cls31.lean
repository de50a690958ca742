section Cls31
set_option maxRecDepth 20000 in
theorem c_Net_isPrefixX {G : Gt}  {h : AHp} {t : Int64} {z : Int32} (hx : inZ z (nI 1) (nI 8) = false) : CallR G m_Net_isPrefix 0 0 [.long t, .int z] h 0 0 (some (.int (bI false))) h := by
  refine CallS.of (Nat.le_of_ble_eq_true rfl) ?_
  refine wp_iload_n d_Net_isPrefix_0 rfl 1 rfl ?_
  refine wp_iconst (v := nI 1) d_Net_isPrefix_1 (by decide) ?_
  refine wp_icmp_lt (tgt := 26) d_Net_isPrefix_2 (by decide) (fun c2 => ?_) (fun c2 => ?_)
  · refine wp_iconst (v := nI 0) d_Net_isPrefix_26 (by decide) ?_
    exact wp_zret (ty := .boolean) d_Net_isPrefix_27 rfl rfl ⟨resI (bI_zero (rfl)), rfl⟩
  · refine wp_iload_n d_Net_isPrefix_5 rfl 1 rfl ?_
    refine wp_bipush (v := nI 8) d_Net_isPrefix_6 (by decide) ?_
    refine wp_icmp_gt (tgt := 26) d_Net_isPrefix_8 (by decide) (fun c8 => ?_) (fun c8 => ?_)
    · refine wp_iconst (v := nI 0) d_Net_isPrefix_26 (by decide) ?_
      exact wp_zret (ty := .boolean) d_Net_isPrefix_27 rfl rfl ⟨resI (bI_zero (rfl)), rfl⟩
    · exact absurd ((inZ_t c2 c8).symm.trans hx) (by decide)
theorem isP_at {T n k : Nat} (h : isP T n = true) (hk : k < n) : lt1 (T / 2 ^ (8 * k) % 256) = true := by
  unfold isP at h
  exact List.all_eq_true.mp (Bool.and_eq_true_iff.mp h).2 k (List.mem_range.mpr hk)
theorem isP_m {T n : Nat} (h : ¬ T < 2 ^ (8 * n)) : isP T n = false := by
  unfold isP
  rw [decide_eq_false h, Bool.false_and]
theorem isP_f {T n k : Nat} (hk : k < n) (h : lt1 (T / 2 ^ (8 * k) % 256) = false) : isP T n = false := by
  rcases Bool.eq_false_or_eq_true (isP T n) with h2 | h2
  · rw [isP_at h2 hk] at h
    cases h
  · exact h2
theorem isP_t {T n : Nat} (hm : T < 2 ^ (8 * n)) (h : ∀ k, k < n → lt1 (T / 2 ^ (8 * k) % 256) = true) : isP T n = true := by
  unfold isP
  rw [decide_eq_true hm, Bool.true_and, List.all_eq_true]
  exact fun k hk => h k (List.mem_range.mp hk)
set_option maxRecDepth 20000 in
theorem c_Net_isPrefix {G : Gt}  {h : AHp} {T n : Nat} (hT : T < 2 ^ 64) (h1 : 1 ≤ n) (h8 : n ≤ 8) : CallR G m_Net_isPrefix 1 14 [.long (lN T), .int (nI n)] h 0 0 (some (.int (bI (isP T n)))) h := by
  refine CallS.of (Nat.le_of_ble_eq_true rfl) ?_
  have hm : T < 2 ^ (8 * n) → T < 2 ^ (8 * n) := id
  have L2 : T < 2 ^ (8 * n) → ∀ (f k : Nat), 8 - k < f → k ≤ n → (∀ j, j < k → lt1 (T / 2 ^ (8 * j) % 256) = true) → WP G m_Net_isPrefix (1, 14, 0, 0, h, fun r9 h9 => r9 = .inl (some (.int (bI (isP T n)))) ∧ h9 = h) 30 [(3, .int (nI k)), (0, .long (lN T)), (2, .int (nI n))] [] h 0 0 := by
    intro hm f
    induction f with
    | zero =>
      intro k h1
      omega
    | succ f ih =>
      intro k hf hk hall
      refine wp_iload_n d_Net_isPrefix_30 rfl 0 rfl ?_
      refine wp_iload_n d_Net_isPrefix_31 rfl 2 rfl ?_
      refine wp_geN (tgt := 60) d_Net_isPrefix_32 (by decide) (by omega) (by omega) (fun c32 => ?_) (fun c32 => ?_)
      · refine wp_iconst (v := nI 1) d_Net_isPrefix_60 (by decide) ?_
        exact wp_zret (ty := .boolean) d_Net_isPrefix_61 rfl rfl ⟨resI (bI_one (isP_t hm (fun j hj => hall j (by omega)))), rfl⟩
      · refine wp_lload_n d_Net_isPrefix_35 rfl 1 rfl ?_
        refine wp_bipush (v := nI 8) d_Net_isPrefix_36 (by decide) ?_
        refine wp_iload_n d_Net_isPrefix_38 rfl 0 rfl ?_
        refine wp_imulN d_Net_isPrefix_39 ?_
        refine wp_lushr d_Net_isPrefix_40 (wb_shr hT (by omega)) ?_
        refine wp_l2i d_Net_isPrefix_41 rfl ?_
        refine wp_sipush (v := nI 255) d_Net_isPrefix_42 (by decide) ?_
        refine wp_iand d_Net_isPrefix_45 ?_
        refine wp_toI (z := nI (T / 2 ^ (8 * k) % 256)) (l2i255 _) ?_
        refine wp_callV (r := 0) d_Net_isPrefix_46 (link_S (av := [.int (nI (T / 2 ^ (8 * k) % 256))]) (rest := []) d_Net_isPrefix_46 cal_Net_isLetter wM_Net_351 rfl) cal_Net_isLetter (CallR.eq (c_Net_isLetter _) (by rw [let_in _ (Nat.mod_lt _ (by decide))]) rfl) (Nat.le_of_ble_eq_true rfl) ⟨Nat.le_of_ble_eq_true rfl, Nat.le_of_ble_eq_true rfl⟩ ?_
        refine wp_if_neB (tgt := 54) d_Net_isPrefix_49 (by decide) (fun c49 => ?_) (fun c49 => ?_)
        · refine wp_iinc (lv' := [(3, .int (nI (k + 1))), (0, .long (lN T)), (2, .int (nI n))]) d_Net_isPrefix_54 0 rfl (nI_1 _) (by decide) rfl ?_
          refine wp_goto (tgt := 30) d_Net_isPrefix_57 (by decide) ?_
          exact ih (k + 1) (by omega) (by omega) (fun j hj => by rcases Nat.lt_or_ge j k with h | h; (exact hall j h); (rw [show j = k by omega]; exact c49))
        · refine wp_iconst (v := nI 0) d_Net_isPrefix_52 (by decide) ?_
          exact wp_zret (ty := .boolean) d_Net_isPrefix_53 rfl rfl ⟨resI (bI_zero (isP_f (by omega) c49)), rfl⟩
  refine wp_iload_n d_Net_isPrefix_0 rfl 1 rfl ?_
  refine wp_iconst (v := nI 1) d_Net_isPrefix_1 (by decide) ?_
  refine wp_ltN (tgt := 26) d_Net_isPrefix_2 (by decide) (by omega) (by omega) (fun c2 => ?_) (fun c2 => ?_)
  · refine wp_iconst (v := nI 0) d_Net_isPrefix_26 (by decide) ?_
    first | (exfalso; omega) | exact wp_zret (ty := .boolean) d_Net_isPrefix_27 rfl rfl ⟨resI (bI_zero (isP_m (fun z => c23 ((msk0 hT (by omega)).mpr z)))), rfl⟩
  · refine wp_iload_n d_Net_isPrefix_5 rfl 1 rfl ?_
    refine wp_bipush (v := nI 8) d_Net_isPrefix_6 (by decide) ?_
    refine wp_gtN (tgt := 26) d_Net_isPrefix_8 (by decide) (by omega) (by omega) (fun c8 => ?_) (fun c8 => ?_)
    · refine wp_iconst (v := nI 0) d_Net_isPrefix_26 (by decide) ?_
      first | (exfalso; omega) | exact wp_zret (ty := .boolean) d_Net_isPrefix_27 rfl rfl ⟨resI (bI_zero (isP_m (fun z => c23 ((msk0 hT (by omega)).mpr z)))), rfl⟩
    · refine wp_lload_n d_Net_isPrefix_11 rfl 0 rfl ?_
      refine wp_iload_n d_Net_isPrefix_12 rfl 1 rfl ?_
      refine wp_callV (r := 2) d_Net_isPrefix_13 (link_S (av := [.int (nI n)]) (rest := [.long (lN T)]) d_Net_isPrefix_13 cal_Net_maskOf wM_Net_366 rfl) cal_Net_maskOf (c_Net_maskOf h8) (Nat.le_of_ble_eq_true rfl) ⟨Nat.le_of_ble_eq_true rfl, Nat.le_of_ble_eq_true rfl⟩ ?_
      refine wp_ldc2 (v := -1) d_Net_isPrefix_16 wK_Net_364 ?_
      refine wp_lxor d_Net_isPrefix_19 ?_
      refine wp_land d_Net_isPrefix_20 ?_
      refine wp_lconst (v := lN 0) d_Net_isPrefix_21 (by decide) ?_
      refine wp_lcmp d_Net_isPrefix_22 ?_
      refine wp_if_eqC (tgt := 28) d_Net_isPrefix_23 (by decide) (fun c23 => ?_) (fun c23 => ?_)
      · have hm := (msk0 hT (by omega)).mp c23
        replace L2 := L2 hm
        refine wp_iconst (v := nI 0) d_Net_isPrefix_28 (by decide) ?_
        refine wp_istore_n (lv' := [(3, .int (nI 0)), (0, .long (lN T)), (2, .int (nI n))]) d_Net_isPrefix_29 rfl (by decide) rfl ?_
        exact L2 9 0 (by omega) (by omega) (fun j hj => by omega)
      · refine wp_iconst (v := nI 0) d_Net_isPrefix_26 (by decide) ?_
        first | (exfalso; omega) | exact wp_zret (ty := .boolean) d_Net_isPrefix_27 rfl rfl ⟨resI (bI_zero (isP_m (fun z => c23 ((msk0 hT (by omega)).mpr z)))), rfl⟩
def hasE (s : Sa) (x T : Nat) : Bool := (sRt s x).any fun e => decide (leN e.1 = T)
theorem hasE_t {s : Sa} {x T k : Nat} {e : RtE} (he : (sRt s x)[k]? = some e) (h : leN e.1 = T) : hasE s x T = true := List.any_eq_true.mpr ⟨e, List.mem_of_getElem? he, decide_eq_true h⟩
theorem hasE_f {s : Sa} {x T : Nat} (hl : (sRt s x).length ≤ 16) (h : ∀ j e, j < 16 → (sRt s x)[j]? = some e → ¬ leN e.1 = T) : hasE s x T = false := by
  rcases Bool.eq_false_or_eq_true (hasE s x T) with h2 | h2
  · obtain ⟨e, he, h3⟩ := List.any_eq_true.mp h2
    obtain ⟨j, hj, rfl⟩ := List.getElem_of_mem he
    exact absurd (of_decide_eq_true h3) (h j _ (by omega) (List.getElem?_eq_getElem hj))
  · exact h2
theorem en_lt {s : Sa} {x : Nat} {e : RtE} (h : okRt s x e) : leN e.1 < 2 ^ 64 := by
  have h1 := leN_lt (l := e.1) (fun b hb => by have := h.2.2.1 b hb; omega)
  have h2 : (256 : Nat) ^ e.1.length ≤ 2 ^ 64 := Nat.pow_le_pow_right (n := 256) (by decide) h.2.1
  omega
theorem hasE_eq {s : Sa} {x n : Nat} (one two : Int32) (h8 : n ≤ 8) (hp : pfxOK one two n = true) (hm : pT one two < 2 ^ (8 * n)) (hro : ∀ e ∈ sRt s x, okRt s x e) : hasE s x (pT one two) = (sRt s x).any fun e => e.1 == pfx one two n := by
  unfold hasE
  rw [Bool.eq_iff_iff, List.any_eq_true, List.any_eq_true]
  constructor
  · rintro ⟨e, he, h⟩
    refine ⟨e, he, beq_iff_eq.mpr ?_⟩
    refine leN_inj2 (hro e he).2.2.1 (pfx_let one two h8 hp) ?_
    rw [pfx_leN one two h8 hm]
    exact of_decide_eq_true h
  · rintro ⟨e, he, h⟩
    refine ⟨e, he, decide_eq_true ?_⟩
    rw [beq_iff_eq.mp h, pfx_leN one two h8 hm]
set_option maxRecDepth 20000 in
theorem c_Swt_hasEntry {G : Gt} {K N : Nat → Nat} {I : Nat → Nat → Int32} {R : Nat → Nat → Option Nat} {L : Nat → Nat → Int64} {E : Nat → Nat → Int32} {El : Nat → Nat → Int64} {Er : Nat → Nat → Option Nat} {Γ : Gm} {ρ : Nat → Nat} {s : Sa} (hR : RepN Γ ρ K N I R L E El Er s) {x T : Nat} (hx : x < 6) (hrl : (sRt s x).length ≤ 16) (hro : ∀ e ∈ sRt s x, okRt s x e) (hT : T < 2 ^ 64) : CallR G m_Swt_hasEntry 0 0 [.ref (Γ 1 x), .long (lN T)] (hN K N I R L E El Er) 0 0 (some (.int (bI (hasE s x T)))) (hN K N I R L E El Er) := by
  refine CallS.of (Nat.le_of_ble_eq_true rfl) ?_
  have L2 : ∀ (f k : Nat), 16 - k < f → k ≤ 16 → (∀ j e, j < k → (sRt s x)[j]? = some e → ¬ leN e.1 = T) → WP G m_Swt_hasEntry (0, 0, 0, 0, (hN K N I R L E El Er), fun r9 h9 => r9 = .inl (some (.int (bI (hasE s x T)))) ∧ h9 = (hN K N I R L E El Er)) 12 [(5, .int (nI k)), (4, .int (nI 16)), (3, .ref (Γ 2 x)), (0, .ref (Γ 1 x)), (1, .long (lN T))] [] (hN K N I R L E El Er) 0 0 := by
    intro f
    induction f with
    | zero =>
      intro k h1
      omega
    | succ f ih =>
      intro k hf hk hno
      refine wp_iload d_Swt_hasEntry_12 0 rfl ?_
      refine wp_iload d_Swt_hasEntry_14 1 rfl ?_
      refine wp_geN (tgt := 48) d_Swt_hasEntry_16 (by decide) (by omega) (by omega) (fun c16 => ?_) (fun c16 => ?_)
      · refine wp_iconst (v := nI 0) d_Swt_hasEntry_48 (by decide) ?_
        exact wp_zret (ty := .boolean) d_Swt_hasEntry_49 rfl rfl ⟨resI (bI_zero (hasE_f hrl (fun j e hj he => hno j e (by omega) he))), rfl⟩
      · cases hek : (sRt s x)[k]? with
        | none =>
          refine wp_aload_n d_Swt_hasEntry_19 rfl 2 rfl ?_
          refine wp_iload d_Swt_hasEntry_20 0 rfl ?_
          refine wn_ald (x := none) d_Swt_hasEntry_22 ((hR.sw x hx).2.2.2.2.2.2.1) rfl (by decide) (by rw [(hR.sw x hx).2.2.2.2.2.2.2.1]; omega) (by rw [(hR.sw x hx).2.2.2.2.2.2.2.1]; omega) (((hR.en x hx k (by omega)).1 hek)) ?_
          refine wp_astoreN (lv' := [(6, .null), (5, .int (nI k)), (4, .int (nI 16)), (3, .ref (Γ 2 x)), (0, .ref (Γ 1 x)), (1, .long (lN T))]) d_Swt_hasEntry_23 (by decide) rfl ?_
          refine wp_aloadN d_Swt_hasEntry_25 0 rfl ?_
          refine wp_ifnullN (tgt := 42) d_Swt_hasEntry_27 (by decide) ?_
          refine wp_iinc (lv' := [(5, .int (nI (k + 1))), (6, .null), (4, .int (nI 16)), (3, .ref (Γ 2 x)), (0, .ref (Γ 1 x)), (1, .long (lN T))]) d_Swt_hasEntry_42 1 rfl (nI_1 _) (by decide) rfl ?_
          refine wp_goto (tgt := 12) d_Swt_hasEntry_45 (by decide) ?_
          refine wp_lv [0, 2, 3, 4, 5] rfl ?_
          exact ih (k + 1) (by omega) (by omega) (fun j e hj he => by rcases Nat.lt_or_ge j k with h | h; (exact hno j e h he); (rw [show j = k by omega, hek] at he; cases he; first | done | exact fun z => c37 (by rw [z])))
        | some e =>
          obtain ⟨eek, een⟩ := (hR.en x hx k (by omega)).2 e hek
          have eok := hro e (List.mem_of_getElem? hek)
          refine wp_aload_n d_Swt_hasEntry_19 rfl 2 rfl ?_
          refine wp_iload d_Swt_hasEntry_20 0 rfl ?_
          refine wn_ald (x := some (Γ 5 (16 * x + k))) d_Swt_hasEntry_22 ((hR.sw x hx).2.2.2.2.2.2.1) rfl (by decide) (by rw [(hR.sw x hx).2.2.2.2.2.2.2.1]; omega) (by rw [(hR.sw x hx).2.2.2.2.2.2.2.1]; omega) (eek) ?_
          refine wp_astore (lv' := [(6, .ref (Γ 5 (16 * x + k))), (5, .int (nI k)), (4, .int (nI 16)), (3, .ref (Γ 2 x)), (0, .ref (Γ 1 x)), (1, .long (lN T))]) d_Swt_hasEntry_23 (by decide) rfl ?_
          refine wp_aload d_Swt_hasEntry_25 0 rfl ?_
          refine wp_ifnull d_Swt_hasEntry_27 ?_
          refine wp_aload d_Swt_hasEntry_30 0 rfl ?_
          refine wn_get_Ent d_Swt_hasEntry_32 (een.1) 0 (by decide) wF_Swt_34 rfl ?_
          refine wp_toL (z := (lN (leN e.1))) (een.2.1) ?_
          refine wp_lload_n d_Swt_hasEntry_35 rfl 5 rfl ?_
          refine wp_lcmp d_Swt_hasEntry_36 ?_
          refine wp_if_neC (tgt := 42) d_Swt_hasEntry_37 (by decide) (fun c37 => ?_) (fun c37 => ?_)
          · refine wp_iinc (lv' := [(5, .int (nI (k + 1))), (6, .ref (Γ 5 (16 * x + k))), (4, .int (nI 16)), (3, .ref (Γ 2 x)), (0, .ref (Γ 1 x)), (1, .long (lN T))]) d_Swt_hasEntry_42 1 rfl (nI_1 _) (by decide) rfl ?_
            refine wp_goto (tgt := 12) d_Swt_hasEntry_45 (by decide) ?_
            refine wp_lv [0, 2, 3, 4, 5] rfl ?_
            exact ih (k + 1) (by omega) (by omega) (fun j e hj he => by rcases Nat.lt_or_ge j k with h | h; (exact hno j e h he); (rw [show j = k by omega, hek] at he; cases he; first | done | exact fun z => c37 (by rw [z])))
          · refine wp_iconst (v := nI 1) d_Swt_hasEntry_40 (by decide) ?_
            exact wp_zret (ty := .boolean) d_Swt_hasEntry_41 rfl rfl ⟨resI (bI_one (hasE_t hek ((lN_inj (en_lt eok) hT).mp c37))), rfl⟩
  refine wp_aload_n d_Swt_hasEntry_0 rfl 0 rfl ?_
  refine wn_get_Swt d_Swt_hasEntry_1 ((hR.sw x hx).2.1) 0 (by decide) wF_Swt_11 rfl ?_
  refine wp_toVR (o := some (Γ 2 x)) (z := .ref (Γ 2 x)) ((hR.sw x hx).2.2.2.1) rfl ?_
  refine wp_astore_n (lv' := [(3, .ref (Γ 2 x)), (0, .ref (Γ 1 x)), (1, .long (lN T))]) d_Swt_hasEntry_4 rfl (by decide) rfl ?_
  refine wp_aload_n d_Swt_hasEntry_5 rfl 0 rfl ?_
  refine wn_len (len := 16) d_Swt_hasEntry_6 ((hR.sw x hx).2.2.2.2.2.2.1) rfl ((hR.sw x hx).2.2.2.2.2.2.2.1) ?_
  refine wp_istore (lv' := [(4, .int (nI 16)), (3, .ref (Γ 2 x)), (0, .ref (Γ 1 x)), (1, .long (lN T))]) d_Swt_hasEntry_7 (by decide) rfl ?_
  refine wp_iconst (v := nI 0) d_Swt_hasEntry_9 (by decide) ?_
  refine wp_istore (lv' := [(5, .int (nI 0)), (4, .int (nI 16)), (3, .ref (Γ 2 x)), (0, .ref (Γ 1 x)), (1, .long (lN T))]) d_Swt_hasEntry_10 (by decide) rfl ?_
  exact L2 17 0 (by omega) (by omega) (fun j e hj => by omega)
set_option maxRecDepth 20000 in
theorem c_Net_isLineOrNoneA {G : Gt} {K N : Nat → Nat} {I : Nat → Nat → Int32} {R : Nat → Nat → Option Nat} {L : Nat → Nat → Int64} {E : Nat → Nat → Int32} {El : Nat → Nat → Int64} {Er : Nat → Nat → Option Nat} {o x : Nat} : CallR G m_Net_isLineOrNone 0 0 [.ref o, .int (nI x), .int (-1)] (hN K N I R L E El Er) 0 0 (some (.int (bI true))) (hN K N I R L E El Er) := by
  refine CallS.of (Nat.le_of_ble_eq_true rfl) ?_
  refine wp_iload_n d_Net_isLineOrNone_0 rfl 2 rfl ?_
  refine wp_iconst (v := -1) d_Net_isLineOrNone_1 (by decide) ?_
  refine wp_icmp_eq (tgt := 26) d_Net_isLineOrNone_2 (by decide) (fun _ => ?_) (fun c => absurd c (by decide))
  refine wp_iconst (v := nI 1) d_Net_isLineOrNone_26 (by decide) ?_
  refine wp_goto (tgt := 31) d_Net_isLineOrNone_27 (by decide) ?_
  exact wp_zret (ty := .boolean) d_Net_isLineOrNone_31 rfl rfl ⟨resI (bI_one (rfl)), rfl⟩
set_option maxRecDepth 20000 in
theorem c_Net_isLineOrNoneB {G : Gt} {K N : Nat → Nat} {I : Nat → Nat → Int32} {R : Nat → Nat → Option Nat} {L : Nat → Nat → Int64} {E : Nat → Nat → Int32} {El : Nat → Nat → Int64} {Er : Nat → Nat → Option Nat} {Γ : Gm} {ρ : Nat → Nat} {s : Sa} (hR : RepN Γ ρ K N I R L E El Er s) {x : Nat} {z : Int32} (hne : ¬ z = -1) (hz : hasB (lnB s) z = false) : CallR G m_Net_isLineOrNone 1 13 [.ref (Γ 0 0), .int (nI x), .int z] (hN K N I R L E El Er) 0 0 (some (.int (bI false))) (hN K N I R L E El Er) := by
  refine CallS.of (Nat.le_of_ble_eq_true rfl) ?_
  refine wp_iload_n d_Net_isLineOrNone_0 rfl 2 rfl ?_
  refine wp_iconst (v := -1) d_Net_isLineOrNone_1 (by decide) ?_
  refine wp_icmp_eq (tgt := 26) d_Net_isLineOrNone_2 (by decide) (fun c2 => ?_) (fun c2 => ?_)
  · refine wp_iconst (v := nI 1) d_Net_isLineOrNone_26 (by decide) ?_
    refine wp_goto (tgt := 31) d_Net_isLineOrNone_27 (by decide) ?_
    exact wp_zret (ty := .boolean) d_Net_isLineOrNone_31 rfl rfl ⟨resI (bI_one (absurd c2 hne)), rfl⟩
  · refine wp_aload_n d_Net_isLineOrNone_5 rfl 0 rfl ?_
    refine wp_iload_n d_Net_isLineOrNone_6 rfl 2 rfl ?_
    refine wp_callV (r := 0) d_Net_isLineOrNone_7 (link_V (as := [.int z]) (rest := []) (r := (R_Net, T_Net, 7)) d_Net_isLineOrNone_7 cal_Net_isLine wM_Net_272 rfl (hN_o (hR.nt.1) (by decide)) rfl) cal_Net_isLine (CallR.eq (c_Net_isLine hR z) (by rw [hz]) rfl) (Nat.le_of_ble_eq_true rfl) ⟨Nat.le_of_ble_eq_true rfl, Nat.le_of_ble_eq_true rfl⟩ ?_
    refine wp_if_eqB (tgt := 30) d_Net_isLineOrNone_10 (by decide) (fun _ => ?_) (fun c => absurd c (by decide))
    refine wp_iconst (v := nI 0) d_Net_isLineOrNone_30 (by decide) ?_
    exact wp_zret (ty := .boolean) d_Net_isLineOrNone_31 rfl rfl ⟨resI (bI_zero (rfl)), rfl⟩
set_option maxRecDepth 20000 in
theorem c_Net_isLineOrNoneC {G : Gt} {K N : Nat → Nat} {I : Nat → Nat → Int32} {R : Nat → Nat → Option Nat} {L : Nat → Nat → Int64} {E : Nat → Nat → Int32} {El : Nat → Nat → Int64} {Er : Nat → Nat → Option Nat} {Γ : Gm} {ρ : Nat → Nat} {s : Sa} (hR : RepN Γ ρ K N I R L E El Er s) {l a b : Nat} {v : Bool} (hl : l < 8) (hv : sLn s l = some (a, b, v)) {x : Nat} (hx : x < 6) (ha6 : a < 6) (hb6 : b < 6) : CallR G m_Net_isLineOrNone 1 13 [.ref (Γ 0 0), .int (nI x), .int (nI l)] (hN K N I R L E El Er) 0 0 (some (.int (bI (a == x || b == x)))) (hN K N I R L E El Er) := by
  refine CallS.of (Nat.le_of_ble_eq_true rfl) ?_
  refine wp_iload_n d_Net_isLineOrNone_0 rfl 2 rfl ?_
  refine wp_iconst (v := -1) d_Net_isLineOrNone_1 (by decide) ?_
  refine wp_icmp_eq (tgt := 26) d_Net_isLineOrNone_2 (by decide) (fun c => absurd c (nI_m1 (by omega))) (fun _ => ?_)
  refine wp_aload_n d_Net_isLineOrNone_5 rfl 0 rfl ?_
  refine wp_iload_n d_Net_isLineOrNone_6 rfl 2 rfl ?_
  refine wp_callV (r := 0) d_Net_isLineOrNone_7 (link_V (as := [.int (nI l)]) (rest := []) (r := (R_Net, T_Net, 7)) d_Net_isLineOrNone_7 cal_Net_isLine wM_Net_272 rfl (hN_o (hR.nt.1) (by decide)) rfl) cal_Net_isLine (c_Net_isLine1 hR hl hv) (Nat.le_of_ble_eq_true rfl) ⟨Nat.le_of_ble_eq_true rfl, Nat.le_of_ble_eq_true rfl⟩ ?_
  refine wp_if_eqB (tgt := 30) d_Net_isLineOrNone_10 (by decide) (fun c => absurd c (by decide)) (fun _ => ?_)
  refine wp_aload_n d_Net_isLineOrNone_13 rfl 0 rfl ?_
  refine wn_get_Net d_Net_isLineOrNone_14 (hR.nt.1) 2 (by decide) wF_Net_24 rfl ?_
  refine wp_toVR (o := some (Γ 0 5)) (z := .ref (Γ 0 5)) (hR.nt.2.2.2.1) rfl ?_
  refine wp_iload_n d_Net_isLineOrNone_17 rfl 2 rfl ?_
  refine wn_ald (x := some (Γ 6 l)) d_Net_isLineOrNone_18 (hR.nt.2.2.2.2.2.2.2.2.2.2.1) rfl (by decide) (by rw [hR.nt.2.2.2.2.2.2.2.2.2.2.2.1]; omega) (by rw [hR.nt.2.2.2.2.2.2.2.2.2.2.2.1]; omega) (((hR.li l hl).2 _ _ _ hv).1) ?_
  refine wp_iload_n d_Net_isLineOrNone_19 rfl 1 rfl ?_
  refine wp_callV (r := 0) d_Net_isLineOrNone_20 (link_V (as := [.int (nI x)]) (rest := []) (r := (R_Lin, T_Lin, 5)) d_Net_isLineOrNone_20 cal_Lin_touches wM_Net_277 rfl (hN_o (((hR.li l hl).2 _ _ _ hv).2.1) (by decide)) rfl) cal_Lin_touches (c_Lin_touches hR hl hv hx ha6 hb6) (Nat.le_of_ble_eq_true rfl) ⟨Nat.le_of_ble_eq_true rfl, Nat.le_of_ble_eq_true rfl⟩ ?_
  refine wp_if_eqB (tgt := 30) d_Net_isLineOrNone_23 (by decide) (fun c23 => ?_) (fun c23 => ?_)
  · refine wp_iconst (v := nI 0) d_Net_isLineOrNone_30 (by decide) ?_
    exact wp_zret (ty := .boolean) d_Net_isLineOrNone_31 rfl rfl ⟨resI (bI_zero (c23)), rfl⟩
  · refine wp_iconst (v := nI 1) d_Net_isLineOrNone_26 (by decide) ?_
    refine wp_goto (tgt := 31) d_Net_isLineOrNone_27 (by decide) ?_
    exact wp_zret (ty := .boolean) d_Net_isLineOrNone_31 rfl rfl ⟨resI (bI_one (c23)), rfl⟩
theorem c_Net_isLineOrNone {G : Gt} {K N : Nat → Nat} {I : Nat → Nat → Int32} {R : Nat → Nat → Option Nat} {L : Nat → Nat → Int64} {E : Nat → Nat → Int32} {El : Nat → Nat → Int64} {Er : Nat → Nat → Option Nat} {Γ : Gm} {ρ : Nat → Nat} {s : Sa} (hR : RepN Γ ρ K N I R L E El Er s) (hab : ∀ l a b v, sLn s l = some (a, b, v) → a < 6 ∧ b < 6) {x : Nat} (hx : x < 6) (z : Int32) : CallR G m_Net_isLineOrNone 1 13 [.ref (Γ 0 0), .int (nI x), .int z] (hN K N I R L E El Er) 0 0 (some (.int (bI (lnOrNone s z x)))) (hN K N I R L E El Er) := by
  by_cases h1 : z = -1
  · subst h1
    exact CallR.up (CallR.eq (c_Net_isLineOrNoneA (o := Γ 0 0) (x := x)) (by unfold lnOrNone; rfl) rfl) (by decide) (by decide)
  · have e0 : lnOrNone s z x = atB s z x := by unfold lnOrNone; rw [decide_eq_false h1, Bool.false_or]
    rw [e0]
    cases hz : hasB (lnB s) z with
    | false =>
      have e1 : atB s z x = false := by
        unfold atB atSw
        unfold hasB lnB at hz
        cases h7 : inZ z (nI 0) (nI 7) with
        | false => rfl
        | true =>
          rw [h7, Bool.true_and] at hz
          rw [Bool.true_and]
          cases hs : sLn s (nN z) with
          | none => rfl
          | some q => rw [show z.toNatClampNeg = nN z from rfl, hs] at hz; cases hz
      exact CallR.up (CallR.eq (c_Net_isLineOrNoneB hR h1 hz) (by rw [e1]) rfl) (by decide) (by decide)
    | true =>
      obtain ⟨l, a, b, v, hl, rfl, hv⟩ := hasB_o hz
      have e1 : atB s (nI l) x = (a == x || b == x) := by
        unfold atB atSw
        unfold hasB at hz
        rw [(Bool.and_eq_true_iff.mp hz).1, Bool.true_and, nN_nI (by omega), hv]
      exact CallR.up (CallR.eq (c_Net_isLineOrNoneC hR hl hv hx (hab l a b v hv).1 (hab l a b v hv).2) (by rw [e1]) rfl) (by decide) (by decide)
end Cls31
