section Mod13
theorem RepM.fi {s : Sa} {Fi : Nat → Int32} {M : Nat → Nat → Int32} {Ml : Nat → Nat → Int64} (h : RepM s Fi M Ml) : RFi s Fi := h.1
theorem RepM.lg {s : Sa} {Fi : Nat → Int32} {M : Nat → Nat → Int32} {Ml : Nat → Nat → Int64} (h : RepM s Fi M Ml) : RLg (sLog s) (M 3) (M 4) (M 5) := h.2.1
theorem RepM.ln {s : Sa} {Fi : Nat → Int32} {M : Nat → Nat → Int32} {Ml : Nat → Nat → Int64} (h : RepM s Fi M Ml) : RLn s (M 6) (M 7) (M 8) (M 9) := h.2.2.1
theorem RepM.rt {s : Sa} {Fi : Nat → Int32} {M : Nat → Nat → Int32} {Ml : Nat → Nat → Int64} (h : RepM s Fi M Ml) : RRt (sRt s) (M 10) (Ml 11) (M 12) (M 13) (M 14) := h.2.2.2.1
theorem RepM.ms {s : Sa} {Fi : Nat → Int32} {M : Nat → Nat → Int32} {Ml : Nat → Nat → Int64} (h : RepM s Fi M Ml) : RMs (sMs s) (M 16) (M 17) (M 18) (M 19) (Ml 20) := h.2.2.2.2.1
theorem RepM.cm {s : Sa} {Fi : Nat → Int32} {M : Nat → Nat → Int32} {Ml : Nat → Nat → Int64} (h : RepM s Fi M Ml) : RCm (sMs s).length (sCm s) (M 21) := h.2.2.2.2.2.1
theorem RepM.cp {s : Sa} {Fi : Nat → Int32} {M : Nat → Nat → Int32} {Ml : Nat → Nat → Int64} (h : RepM s Fi M Ml) : RCp (sCp s) (M 23) := h.2.2.2.2.2.2.1
theorem RepM.ch {s : Sa} {Fi : Nat → Int32} {M : Nat → Nat → Int32} {Ml : Nat → Nat → Int64} (h : RepM s Fi M Ml) : RCh s (M 24) (M 25) (M 26) (M 27) (M 28) (M 29) (M 30) (M 31) (M 32) := h.2.2.2.2.2.2.2.1
theorem RepM.un {s : Sa} {Fi : Nat → Int32} {M : Nat → Nat → Int32} {Ml : Nat → Nat → Int64} (h : RepM s Fi M Ml) : RCn (sUn s) (M 33) := h.2.2.2.2.2.2.2.2.1
theorem RepM.db {s : Sa} {Fi : Nat → Int32} {M : Nat → Nat → Int32} {Ml : Nat → Nat → Int64} (h : RepM s Fi M Ml) : RCn (sDb s) (M 34) := h.2.2.2.2.2.2.2.2.2.1
theorem RepM.dk {s : Sa} {Fi : Nat → Int32} {M : Nat → Nat → Int32} {Ml : Nat → Nat → Int64} (h : RepM s Fi M Ml) : RDk (sDk s) (M 35) (M 36) := h.2.2.2.2.2.2.2.2.2.2
theorem c_bCp {n : Nat} {s : Sa} (h : Inv n s) : bCp (sCp s) := by
  obtain ⟨h1, h2, h3, h4⟩ := h
  have hms := h2.2.2.2.2.2.2.1
  have hcp := h3.2.2.1
  refine ⟨?_, fun c hc => ?_⟩
  · have h5 : (sCp s).length ≤ phiCp (sCp s) := by
      have key : ∀ l : List (Nat × Nat × Nat × Nat), (∀ c ∈ l, 1 ≤ pc7 c.2.2.1) → l.length ≤ phiCp l := by
        intro l
        induction l with
        | nil => intro _; exact Nat.le_refl _
        | cons c l ih =>
          intro hl
          have a1 := hl c (List.mem_cons_self)
          have a2 := ih fun d hd => hl d (List.mem_cons_of_mem _ hd)
          simp only [phiCp, List.map_cons, List.sum_cons, List.length_cons] at a2 ⊢
          omega
      refine key _ fun c hc => ?_
      obtain ⟨_, _, ⟨q1, q2, q3⟩, q4, _⟩ := hcp c hc
      have hcnt : cntOf s c.2.1 ≤ 7 := by
        unfold cntOf
        rw [List.getD_eq_getElem?_getD]
        have hlt : c.2.1 - 1 < (sMs s).length := by omega
        rw [List.getElem?_eq_getElem hlt]
        exact (h2.2.2.2.2.2.2.2 _ (List.getElem_mem hlt)).2.2.1
      have hlt : c.2.2.1 < 2 ^ 7 := Nat.lt_of_lt_of_le q3 (Nat.pow_le_pow_right (by decide) hcnt)
      apply Nat.pos_of_ne_zero
      intro h0
      have hall : ∀ k, k < 7 → c.2.2.1.testBit k = false := by
        intro k hk
        cases hb : c.2.2.1.testBit k with
        | false => rfl
        | true =>
          have : k ∈ (List.range 7).filter fun k => c.2.2.1.testBit k := List.mem_filter.mpr ⟨List.mem_range.mpr hk, hb⟩
          rw [List.length_eq_zero_iff.mp h0] at this
          cases this
      have : c.2.2.1 = 0 := by
        apply Nat.eq_of_testBit_eq
        intro i
        rw [Nat.zero_testBit]
        rcases Nat.lt_or_ge i 7 with hi | hi
        · exact hall i hi
        · exact Nat.testBit_lt_two_pow (Nat.lt_of_lt_of_le hlt (Nat.pow_le_pow_right (by decide) hi))
      omega
    have : phiCp (sCp s) ≤ phi s := by unfold phi; omega
    omega
  · obtain ⟨q0, _, ⟨q1, q2, q3⟩, q4, q5⟩ := hcp c hc
    have hcnt : cntOf s c.2.1 ≤ 7 := by
      unfold cntOf
      rw [List.getD_eq_getElem?_getD]
      have hlt : c.2.1 - 1 < (sMs s).length := by omega
      rw [List.getElem?_eq_getElem hlt]
      exact (h2.2.2.2.2.2.2.2 _ (List.getElem_mem hlt)).2.2.1
    exact ⟨q0, ⟨q1, by omega⟩, Nat.lt_of_lt_of_le q3 (Nat.pow_le_pow_right (n := 2) (by decide) hcnt), q5⟩
set_option maxRecDepth 20000 in
theorem l_Mod_count {G : Gt} {B : Bt} {o : Nat} {A : Nat → Nat} {Fi : Nat → Int32} {M : Nat → Nat → Int32} {Ml : Nat → Nat → Int64} (hI : mInj o A) {cs : List (Nat × Nat × Nat × Nat)} (hb : bCp cs) (hn : Fi 22 = nI cs.length) (hcp : RCp cs (M 23)) {x w : Int32} {j : Nat} (hj : nI 16 + x = nI j) (hj2 : j < 22) (KK : WP G m_Mod_count B 101 [(4, .int (nI (cs.length))), (3, .int (nI (cs.countP fun c => c.1 == j))), (0, .ref o), (1, .int x), (2, .int w)] [] (hM o A Fi M Ml) 0 0) : ∀ (f i q : Nat), cs.length - i < f → i ≤ cs.length → q = (cs.take i).countP (fun c => c.1 == j) → WP G m_Mod_count B 61 [(4, .int (nI i)), (3, .int (nI q)), (0, .ref o), (1, .int x), (2, .int w)] [] (hM o A Fi M Ml) 0 0 := by
  have hlen := hb.1
  intro f
  induction f with
  | zero =>
    intro i q h1
    omega
  | succ f ih =>
    intro i q hf hi hq
    refine wp_iload d_Mod_count_61 0 rfl ?_
    refine wp_aload_n d_Mod_count_63 rfl 2 rfl ?_
    refine wm_get d_Mod_count_64 22 (by decide) wF_Mod_202 rfl ?_
    refine wp_toI (z := (nI (cs.length))) (hn) ?_
    refine wp_geN (tgt := 101) d_Mod_count_67 (by decide) (by omega) (by omega) (fun c67 => ?_) (fun c67 => ?_)
    · obtain rfl : i = cs.length := by omega
      rw [List.take_length] at hq
      subst hq
      exact KK
    · obtain ⟨c, hc⟩ := get_of c67
      have hcb := encC_ok (hb.2 c (List.mem_of_getElem? hc))
      refine wp_iload_n d_Mod_count_70 rfl 1 rfl ?_
      refine wp_aload_n d_Mod_count_71 rfl 2 rfl ?_
      refine wm_get d_Mod_count_72 23 (by decide) wF_Mod_66 rfl ?_
      refine wp_iload d_Mod_count_75 0 rfl ?_
      refine wm_ild (j := 23) (x := (nI (encC c))) d_Mod_count_77 hI (by decide) (by decide) (by show _ < 2000; omega) (by decide) (hcp i c hc) ?_
      refine wp_bipush (v := nI 20) d_Mod_count_78 (by decide) ?_
      refine wp_ishrN d_Mod_count_80 (by omega) (by omega) ?_
      refine wp_toI (z := (nI (c.1))) (congrArg nI hcb.1) ?_
      refine wp_bipush (v := nI 16) d_Mod_count_81 (by decide) ?_
      refine wp_iload_n d_Mod_count_83 rfl 3 rfl ?_
      refine wp_iadd d_Mod_count_84 ?_
      refine wp_toI (z := nI j) hj ?_
      have hcb1 := (hb.2 c (List.mem_of_getElem? hc)).1
      refine wp_neN (tgt := 92) d_Mod_count_85 (by decide) (by omega) (by omega) (fun c85 => ?_) (fun c85 => ?_)
      · refine wp_iconst (v := nI 0) d_Mod_count_92 (by decide) ?_
        refine wp_iaddN d_Mod_count_93 ?_
        refine wp_istore_n (lv' := [(3, .int (nI (q + 0))), (4, .int (nI i)), (0, .ref o), (1, .int x), (2, .int w)]) d_Mod_count_94 rfl (by decide) rfl ?_
        refine wp_iinc (lv' := [(4, .int (nI (i + 1))), (3, .int (nI (q + 0))), (0, .ref o), (1, .int x), (2, .int w)]) d_Mod_count_95 1 rfl (nI_1 _) (by decide) rfl ?_
        refine wp_goto (tgt := 61) d_Mod_count_98 (by decide) ?_
        exact ih (i + 1) (q + 0) (by omega) (by omega) (by rw [cntT hc, hq]; simp [c85])
      · refine wp_iconst (v := nI 1) d_Mod_count_88 (by decide) ?_
        refine wp_goto (tgt := 93) d_Mod_count_89 (by decide) ?_
        refine wp_iaddN d_Mod_count_93 ?_
        refine wp_istore_n (lv' := [(3, .int (nI (q + 1))), (4, .int (nI i)), (0, .ref o), (1, .int x), (2, .int w)]) d_Mod_count_94 rfl (by decide) rfl ?_
        refine wp_iinc (lv' := [(4, .int (nI (i + 1))), (3, .int (nI (q + 1))), (0, .ref o), (1, .int x), (2, .int w)]) d_Mod_count_95 1 rfl (nI_1 _) (by decide) rfl ?_
        refine wp_goto (tgt := 61) d_Mod_count_98 (by decide) ?_
        exact ih (i + 1) (q + 1) (by omega) (by omega) (by rw [cntT hc, hq]; simp [c85])
theorem inZ_w {w : Int32} {lo hi : Nat} (hl : lo < 2 ^ 31) (hh : hi < 2 ^ 31) (h : inZ w (nI lo) (nI hi) = true) : ∃ p, lo ≤ p ∧ p ≤ hi ∧ w = nI p := by
  unfold inZ at h
  simp only [decide_eq_true_eq] at h
  obtain ⟨h1, h2⟩ := h
  have h3 : ¬ w < 0 := by
    rw [Int32.not_lt]
    have : (nI 0) ≤ nI lo := (nI_leI (by decide) hl).mpr (Nat.zero_le _)
    rw [nI_0] at this
    exact Int32.le_trans this h1
  obtain ⟨j, hj, rfl⟩ := nI_of h3
  exact ⟨j, (nI_leI hl hj).mp h1, (nI_leI hj hh).mp h2, rfl⟩
set_option maxRecDepth 20000 in
theorem c_Mod_count0 {G : Gt} {o : Nat} {A : Nat → Nat} {Fi : Nat → Int32} {M : Nat → Nat → Int32} {Ml : Nat → Nat → Int64} {x w : Int32} (hx : (x = -1 → inZ w (nI 3) (nI 4) = false) ∧ (x ≠ -1 → (swB x && inZ w (nI 0) (nI 2)) = false)) : CallR G m_Mod_count 2 27 [.ref o, .int x, .int w] (hM o A Fi M Ml) 0 0 (some (.int (nI 0))) (hM o A (va_up Fi 0 (nI 1)) M Ml) := by
  refine CallS.of (Nat.le_of_ble_eq_true rfl) ?_
  refine wp_aload_n d_Mod_count_0 rfl 0 rfl ?_
  refine wp_iload_n d_Mod_count_1 rfl 1 rfl ?_
  refine wp_iconst (v := -1) d_Mod_count_2 (by decide) ?_
  refine wp_icmp_ne (tgt := 23) d_Mod_count_3 (by decide) (fun c3 => ?_) (fun c3 => ?_)
  · refine wp_iload_n d_Mod_count_23 rfl 1 rfl ?_
    refine wp_callV (r := 1) d_Mod_count_24 (link_S (av := [.int x]) (rest := [.ref o]) d_Mod_count_24 cal_Mod_isSwitch wM_Mod_123 rfl) cal_Mod_isSwitch (c_Mod_isSwitch x) (Nat.le_of_ble_eq_true rfl) ⟨Nat.le_of_ble_eq_true rfl, Nat.le_of_ble_eq_true rfl⟩ ?_
    refine wp_if_eqB (tgt := 43) d_Mod_count_27 (by decide) (fun c27 => ?_) (fun c27 => ?_)
    · refine wp_iconst (v := nI 1) d_Mod_count_43 (by decide) ?_
      refine wm_put (Fi' := va_up Fi 0 (nI 1)) d_Mod_count_44 0 (by decide) wF_Mod_111 rfl (by decide) rfl ?_
      refine wp_aload_n d_Mod_count_47 rfl 0 rfl ?_
      refine wm_get d_Mod_count_48 0 (by decide) wF_Mod_111 rfl ?_
      refine wp_toI (z := (nI 1)) (rfl) ?_
      refine wp_if_leN (tgt := 56) d_Mod_count_51 (by decide) (by omega) (fun c => absurd c (by decide)) (fun _ => ?_)
      refine wp_iconst (v := nI 0) d_Mod_count_54 (by decide) ?_
      exact wp_iret d_Mod_count_55 rfl ⟨rfl, rfl⟩
    · refine wp_iload_n d_Mod_count_30 rfl 2 rfl ?_
      refine wp_iconst (v := nI 0) d_Mod_count_31 (by decide) ?_
      refine wp_iconst (v := nI 2) d_Mod_count_32 (by decide) ?_
      refine wp_callV (r := 1) d_Mod_count_33 (link_S (av := [.int w, .int (nI 0), .int (nI 2)]) (rest := [.ref o]) d_Mod_count_33 cal_Mod_in wM_Mod_115 rfl) cal_Mod_in (c_Mod_in w (nI 0) (nI 2)) (Nat.le_of_ble_eq_true rfl) ⟨Nat.le_of_ble_eq_true rfl, Nat.le_of_ble_eq_true rfl⟩ ?_
      refine wp_if_eqB (tgt := 43) d_Mod_count_36 (by decide) (fun c36 => ?_) (fun c36 => ?_)
      · refine wp_iconst (v := nI 1) d_Mod_count_43 (by decide) ?_
        refine wm_put (Fi' := va_up Fi 0 (nI 1)) d_Mod_count_44 0 (by decide) wF_Mod_111 rfl (by decide) rfl ?_
        refine wp_aload_n d_Mod_count_47 rfl 0 rfl ?_
        refine wm_get d_Mod_count_48 0 (by decide) wF_Mod_111 rfl ?_
        refine wp_toI (z := (nI 1)) (rfl) ?_
        refine wp_if_leN (tgt := 56) d_Mod_count_51 (by decide) (by omega) (fun c => absurd c (by decide)) (fun _ => ?_)
        refine wp_iconst (v := nI 0) d_Mod_count_54 (by decide) ?_
        exact wp_iret d_Mod_count_55 rfl ⟨rfl, rfl⟩
      · refine wp_iconst (v := nI 0) d_Mod_count_39 (by decide) ?_
        refine wp_goto (tgt := 44) d_Mod_count_40 (by decide) ?_
        refine wm_put (Fi' := va_up Fi 0 (nI 0)) d_Mod_count_44 0 (by decide) wF_Mod_111 rfl (by decide) rfl ?_
        refine wp_aload_n d_Mod_count_47 rfl 0 rfl ?_
        refine wm_get d_Mod_count_48 0 (by decide) wF_Mod_111 rfl ?_
        refine wp_toI (z := (nI 0)) (rfl) ?_
        refine wp_if_leN (tgt := 56) d_Mod_count_51 (by decide) (by omega) (fun _ => ?_) (fun c => absurd c (by decide))
        first | exact absurd (hx.1 c3) (by rw [c12]; decide) | exact absurd (hx.2 c3) (by show ¬ (inZ x (nI 0) (nI 5) && _) = false; rw [c27, c36]; decide)
  · refine wp_iload_n d_Mod_count_6 rfl 2 rfl ?_
    refine wp_iconst (v := nI 3) d_Mod_count_7 (by decide) ?_
    refine wp_iconst (v := nI 4) d_Mod_count_8 (by decide) ?_
    refine wp_callV (r := 1) d_Mod_count_9 (link_S (av := [.int w, .int (nI 3), .int (nI 4)]) (rest := [.ref o]) d_Mod_count_9 cal_Mod_in wM_Mod_115 rfl) cal_Mod_in (c_Mod_in w (nI 3) (nI 4)) (Nat.le_of_ble_eq_true rfl) ⟨Nat.le_of_ble_eq_true rfl, Nat.le_of_ble_eq_true rfl⟩ ?_
    refine wp_if_eqB (tgt := 19) d_Mod_count_12 (by decide) (fun c12 => ?_) (fun c12 => ?_)
    · refine wp_iconst (v := nI 1) d_Mod_count_19 (by decide) ?_
      refine wp_goto (tgt := 44) d_Mod_count_20 (by decide) ?_
      refine wm_put (Fi' := va_up Fi 0 (nI 1)) d_Mod_count_44 0 (by decide) wF_Mod_111 rfl (by decide) rfl ?_
      refine wp_aload_n d_Mod_count_47 rfl 0 rfl ?_
      refine wm_get d_Mod_count_48 0 (by decide) wF_Mod_111 rfl ?_
      refine wp_toI (z := (nI 1)) (rfl) ?_
      refine wp_if_leN (tgt := 56) d_Mod_count_51 (by decide) (by omega) (fun c => absurd c (by decide)) (fun _ => ?_)
      refine wp_iconst (v := nI 0) d_Mod_count_54 (by decide) ?_
      exact wp_iret d_Mod_count_55 rfl ⟨rfl, rfl⟩
    · refine wp_iconst (v := nI 0) d_Mod_count_15 (by decide) ?_
      refine wp_goto (tgt := 44) d_Mod_count_16 (by decide) ?_
      refine wm_put (Fi' := va_up Fi 0 (nI 0)) d_Mod_count_44 0 (by decide) wF_Mod_111 rfl (by decide) rfl ?_
      refine wp_aload_n d_Mod_count_47 rfl 0 rfl ?_
      refine wm_get d_Mod_count_48 0 (by decide) wF_Mod_111 rfl ?_
      refine wp_toI (z := (nI 0)) (rfl) ?_
      refine wp_if_leN (tgt := 56) d_Mod_count_51 (by decide) (by omega) (fun _ => ?_) (fun c => absurd c (by decide))
      first | exact absurd (hx.1 c3) (by rw [c12]; decide) | exact absurd (hx.2 c3) (by show ¬ (inZ x (nI 0) (nI 5) && _) = false; rw [c27, c36]; decide)
set_option maxRecDepth 20000 in
theorem c_Mod_countA3 {G : Gt} {o : Nat} {A : Nat → Nat} {Fi : Nat → Int32} {M : Nat → Nat → Int32} {Ml : Nat → Nat → Int64} (hI : mInj o A) {cs : List (Nat × Nat × Nat × Nat)} (hb : bCp cs) (hn : Fi 22 = nI cs.length) (hcp : RCp cs (M 23)) {q : Nat} (hq : Fi 1 = nI q) : CallR G m_Mod_count 1 15 [.ref o, .int (-1), .int (nI 3)] (hM o A Fi M Ml) 0 0 (some (.int (nI q))) (hM o A (va_up Fi 0 (nI 0)) M Ml) := by
  refine CallS.of (Nat.le_of_ble_eq_true rfl) ?_
  refine wp_aload_n d_Mod_count_0 rfl 0 rfl ?_
  refine wp_iload_n d_Mod_count_1 rfl 1 rfl ?_
  refine wp_iconst (v := -1) d_Mod_count_2 (by decide) ?_
  refine wp_icmp_ne (tgt := 23) d_Mod_count_3 (by decide) (fun c => absurd c (by decide)) (fun _ => ?_)
  refine wp_iload_n d_Mod_count_6 rfl 2 rfl ?_
  refine wp_iconst (v := nI 3) d_Mod_count_7 (by decide) ?_
  refine wp_iconst (v := nI 4) d_Mod_count_8 (by decide) ?_
  refine wp_callV (r := 1) d_Mod_count_9 (link_S (av := [.int (nI 3), .int (nI 3), .int (nI 4)]) (rest := [.ref o]) d_Mod_count_9 cal_Mod_in wM_Mod_115 rfl) cal_Mod_in (c_Mod_inT (by omega) (by omega) (by omega)) (Nat.le_of_ble_eq_true rfl) ⟨Nat.le_of_ble_eq_true rfl, Nat.le_of_ble_eq_true rfl⟩ ?_
  refine wp_if_eqB (tgt := 19) d_Mod_count_12 (by decide) (fun c => absurd c (by decide)) (fun _ => ?_)
  refine wp_iconst (v := nI 0) d_Mod_count_15 (by decide) ?_
  refine wp_goto (tgt := 44) d_Mod_count_16 (by decide) ?_
  refine wm_put (Fi' := va_up Fi 0 (nI 0)) d_Mod_count_44 0 (by decide) wF_Mod_111 rfl (by decide) rfl ?_
  refine wp_aload_n d_Mod_count_47 rfl 0 rfl ?_
  refine wm_get d_Mod_count_48 0 (by decide) wF_Mod_111 rfl ?_
  refine wp_toI (z := (nI 0)) (rfl) ?_
  refine wp_if_leN (tgt := 56) d_Mod_count_51 (by decide) (by omega) (fun _ => ?_) (fun c => absurd c (by decide))
  refine wp_iconst (v := nI 0) d_Mod_count_56 (by decide) ?_
  refine wp_istore_n (lv' := [(3, .int (nI 0)), (0, .ref o), (1, .int (-1)), (2, .int (nI 3))]) d_Mod_count_57 rfl (by decide) rfl ?_
  refine wp_iconst (v := nI 0) d_Mod_count_58 (by decide) ?_
  refine wp_istore (lv' := [(4, .int (nI 0)), (3, .int (nI 0)), (0, .ref o), (1, .int (-1)), (2, .int (nI 3))]) d_Mod_count_59 (by decide) rfl ?_
  refine wp_lv [0, 1, 2, 3, 4] rfl ?_
  refine l_Mod_count (Fi := va_up Fi 0 (nI 0)) (x := (-1)) (j := 15) hI hb (show va_up Fi 0 (nI 0) 22 = nI cs.length from hn) hcp (by decide) (by omega) ?_ (cs.length + 1) 0 0 (by omega) (by omega) rfl
  refine wp_iload_n d_Mod_count_101 rfl 4 rfl ?_
  refine wp_tableIn (tgt := 148) d_Mod_count_102 (by decide) (by decide) rfl (by decide) ?_
  refine wp_aload_n d_Mod_count_148 rfl 2 rfl ?_
  refine wm_get d_Mod_count_149 1 (by decide) wF_Mod_227 rfl ?_
  refine wp_toI (z := (nI q)) (hq) ?_
  exact wp_iret d_Mod_count_152 rfl ⟨rfl, rfl⟩
set_option maxRecDepth 20000 in
theorem c_Mod_countA4 {G : Gt} {o : Nat} {A : Nat → Nat} {Fi : Nat → Int32} {M : Nat → Nat → Int32} {Ml : Nat → Nat → Int64} (hI : mInj o A) {cs : List (Nat × Nat × Nat × Nat)} (hb : bCp cs) (hn : Fi 22 = nI cs.length) (hcp : RCp cs (M 23)) {q : Nat} (hq : Fi 15 = nI q) : CallR G m_Mod_count 1 15 [.ref o, .int (-1), .int (nI 4)] (hM o A Fi M Ml) 0 0 (some (.int (nI q))) (hM o A (va_up Fi 0 (nI 0)) M Ml) := by
  refine CallS.of (Nat.le_of_ble_eq_true rfl) ?_
  refine wp_aload_n d_Mod_count_0 rfl 0 rfl ?_
  refine wp_iload_n d_Mod_count_1 rfl 1 rfl ?_
  refine wp_iconst (v := -1) d_Mod_count_2 (by decide) ?_
  refine wp_icmp_ne (tgt := 23) d_Mod_count_3 (by decide) (fun c => absurd c (by decide)) (fun _ => ?_)
  refine wp_iload_n d_Mod_count_6 rfl 2 rfl ?_
  refine wp_iconst (v := nI 3) d_Mod_count_7 (by decide) ?_
  refine wp_iconst (v := nI 4) d_Mod_count_8 (by decide) ?_
  refine wp_callV (r := 1) d_Mod_count_9 (link_S (av := [.int (nI 4), .int (nI 3), .int (nI 4)]) (rest := [.ref o]) d_Mod_count_9 cal_Mod_in wM_Mod_115 rfl) cal_Mod_in (c_Mod_inT (by omega) (by omega) (by omega)) (Nat.le_of_ble_eq_true rfl) ⟨Nat.le_of_ble_eq_true rfl, Nat.le_of_ble_eq_true rfl⟩ ?_
  refine wp_if_eqB (tgt := 19) d_Mod_count_12 (by decide) (fun c => absurd c (by decide)) (fun _ => ?_)
  refine wp_iconst (v := nI 0) d_Mod_count_15 (by decide) ?_
  refine wp_goto (tgt := 44) d_Mod_count_16 (by decide) ?_
  refine wm_put (Fi' := va_up Fi 0 (nI 0)) d_Mod_count_44 0 (by decide) wF_Mod_111 rfl (by decide) rfl ?_
  refine wp_aload_n d_Mod_count_47 rfl 0 rfl ?_
  refine wm_get d_Mod_count_48 0 (by decide) wF_Mod_111 rfl ?_
  refine wp_toI (z := (nI 0)) (rfl) ?_
  refine wp_if_leN (tgt := 56) d_Mod_count_51 (by decide) (by omega) (fun _ => ?_) (fun c => absurd c (by decide))
  refine wp_iconst (v := nI 0) d_Mod_count_56 (by decide) ?_
  refine wp_istore_n (lv' := [(3, .int (nI 0)), (0, .ref o), (1, .int (-1)), (2, .int (nI 4))]) d_Mod_count_57 rfl (by decide) rfl ?_
  refine wp_iconst (v := nI 0) d_Mod_count_58 (by decide) ?_
  refine wp_istore (lv' := [(4, .int (nI 0)), (3, .int (nI 0)), (0, .ref o), (1, .int (-1)), (2, .int (nI 4))]) d_Mod_count_59 (by decide) rfl ?_
  refine wp_lv [0, 1, 2, 3, 4] rfl ?_
  refine l_Mod_count (Fi := va_up Fi 0 (nI 0)) (x := (-1)) (j := 15) hI hb (show va_up Fi 0 (nI 0) 22 = nI cs.length from hn) hcp (by decide) (by omega) ?_ (cs.length + 1) 0 0 (by omega) (by omega) rfl
  refine wp_iload_n d_Mod_count_101 rfl 4 rfl ?_
  refine wp_tableOut (tgt := 153) d_Mod_count_102 (by decide) (by decide) ?_
  refine wp_aload_n d_Mod_count_153 rfl 2 rfl ?_
  refine wm_get d_Mod_count_154 15 (by decide) wF_Mod_189 rfl ?_
  refine wp_toI (z := (nI q)) (hq) ?_
  exact wp_iret d_Mod_count_157 rfl ⟨rfl, rfl⟩
set_option maxRecDepth 20000 in
theorem c_Mod_countB0 {G : Gt} {o : Nat} {A : Nat → Nat} {Fi : Nat → Int32} {M : Nat → Nat → Int32} {Ml : Nat → Nat → Int64} (hI : mInj o A) {cs : List (Nat × Nat × Nat × Nat)} (hb : bCp cs) (hn : Fi 22 = nI cs.length) (hcp : RCp cs (M 23)) {j : Nat} (hj : j < 6) {q : Nat} (hq : M 33 j = nI q) : CallR G m_Mod_count 2 27 [.ref o, .int (nI j), .int (nI 0)] (hM o A Fi M Ml) 0 0 (some (.int (nI q))) (hM o A (va_up Fi 0 (nI 0)) M Ml) := by
  refine CallS.of (Nat.le_of_ble_eq_true rfl) ?_
  refine wp_aload_n d_Mod_count_0 rfl 0 rfl ?_
  refine wp_iload_n d_Mod_count_1 rfl 1 rfl ?_
  refine wp_iconst (v := -1) d_Mod_count_2 (by decide) ?_
  refine wp_icmp_ne (tgt := 23) d_Mod_count_3 (by decide) (fun _ => ?_) (fun c => absurd c (nI_m1 (by omega)))
  refine wp_iload_n d_Mod_count_23 rfl 1 rfl ?_
  refine wp_callV (r := 1) d_Mod_count_24 (link_S (av := [.int (nI j)]) (rest := [.ref o]) d_Mod_count_24 cal_Mod_isSwitch wM_Mod_123 rfl) cal_Mod_isSwitch (c_Mod_isSwitchT (by omega)) (Nat.le_of_ble_eq_true rfl) ⟨Nat.le_of_ble_eq_true rfl, Nat.le_of_ble_eq_true rfl⟩ ?_
  refine wp_if_eqB (tgt := 43) d_Mod_count_27 (by decide) (fun c => absurd c (by decide)) (fun _ => ?_)
  refine wp_iload_n d_Mod_count_30 rfl 2 rfl ?_
  refine wp_iconst (v := nI 0) d_Mod_count_31 (by decide) ?_
  refine wp_iconst (v := nI 2) d_Mod_count_32 (by decide) ?_
  refine wp_callV (r := 1) d_Mod_count_33 (link_S (av := [.int (nI 0), .int (nI 0), .int (nI 2)]) (rest := [.ref o]) d_Mod_count_33 cal_Mod_in wM_Mod_115 rfl) cal_Mod_in (c_Mod_inT (by omega) (by omega) (by omega)) (Nat.le_of_ble_eq_true rfl) ⟨Nat.le_of_ble_eq_true rfl, Nat.le_of_ble_eq_true rfl⟩ ?_
  refine wp_if_eqB (tgt := 43) d_Mod_count_36 (by decide) (fun c => absurd c (by decide)) (fun _ => ?_)
  refine wp_iconst (v := nI 0) d_Mod_count_39 (by decide) ?_
  refine wp_goto (tgt := 44) d_Mod_count_40 (by decide) ?_
  refine wm_put (Fi' := va_up Fi 0 (nI 0)) d_Mod_count_44 0 (by decide) wF_Mod_111 rfl (by decide) rfl ?_
  refine wp_aload_n d_Mod_count_47 rfl 0 rfl ?_
  refine wm_get d_Mod_count_48 0 (by decide) wF_Mod_111 rfl ?_
  refine wp_toI (z := (nI 0)) (rfl) ?_
  refine wp_if_leN (tgt := 56) d_Mod_count_51 (by decide) (by omega) (fun _ => ?_) (fun c => absurd c (by decide))
  refine wp_iconst (v := nI 0) d_Mod_count_56 (by decide) ?_
  refine wp_istore_n (lv' := [(3, .int (nI 0)), (0, .ref o), (1, .int (nI j)), (2, .int (nI 0))]) d_Mod_count_57 rfl (by decide) rfl ?_
  refine wp_iconst (v := nI 0) d_Mod_count_58 (by decide) ?_
  refine wp_istore (lv' := [(4, .int (nI 0)), (3, .int (nI 0)), (0, .ref o), (1, .int (nI j)), (2, .int (nI 0))]) d_Mod_count_59 (by decide) rfl ?_
  refine wp_lv [0, 1, 2, 3, 4] rfl ?_
  refine l_Mod_count (Fi := va_up Fi 0 (nI 0)) (x := (nI j)) (j := 16 + j) hI hb (show va_up Fi 0 (nI 0) 22 = nI cs.length from hn) hcp (nI_add 16 j) (by omega) ?_ (cs.length + 1) 0 0 (by omega) (by omega) rfl
  refine wp_iload_n d_Mod_count_101 rfl 4 rfl ?_
  refine wp_tableIn (tgt := 132) d_Mod_count_102 (by decide) (by decide) rfl (by decide) ?_
  refine wp_aload_n d_Mod_count_132 rfl 2 rfl ?_
  refine wm_get d_Mod_count_133 33 (by decide) wF_Mod_96 rfl ?_
  refine wp_iload_n d_Mod_count_136 rfl 3 rfl ?_
  refine wm_ild (j := 33) (x := (nI q)) d_Mod_count_137 hI (by decide) (by decide) (by show _ < 6; omega) (by decide) (hq) ?_
  exact wp_iret d_Mod_count_138 rfl ⟨rfl, rfl⟩
set_option maxRecDepth 20000 in
theorem c_Mod_countB1 {G : Gt} {o : Nat} {A : Nat → Nat} {Fi : Nat → Int32} {M : Nat → Nat → Int32} {Ml : Nat → Nat → Int64} (hI : mInj o A) {cs : List (Nat × Nat × Nat × Nat)} (hb : bCp cs) (hn : Fi 22 = nI cs.length) (hcp : RCp cs (M 23)) {j : Nat} (hj : j < 6) {q : Nat} (hq : M 34 j = nI q) : CallR G m_Mod_count 2 27 [.ref o, .int (nI j), .int (nI 1)] (hM o A Fi M Ml) 0 0 (some (.int (nI q))) (hM o A (va_up Fi 0 (nI 0)) M Ml) := by
  refine CallS.of (Nat.le_of_ble_eq_true rfl) ?_
  refine wp_aload_n d_Mod_count_0 rfl 0 rfl ?_
  refine wp_iload_n d_Mod_count_1 rfl 1 rfl ?_
  refine wp_iconst (v := -1) d_Mod_count_2 (by decide) ?_
  refine wp_icmp_ne (tgt := 23) d_Mod_count_3 (by decide) (fun _ => ?_) (fun c => absurd c (nI_m1 (by omega)))
  refine wp_iload_n d_Mod_count_23 rfl 1 rfl ?_
  refine wp_callV (r := 1) d_Mod_count_24 (link_S (av := [.int (nI j)]) (rest := [.ref o]) d_Mod_count_24 cal_Mod_isSwitch wM_Mod_123 rfl) cal_Mod_isSwitch (c_Mod_isSwitchT (by omega)) (Nat.le_of_ble_eq_true rfl) ⟨Nat.le_of_ble_eq_true rfl, Nat.le_of_ble_eq_true rfl⟩ ?_
  refine wp_if_eqB (tgt := 43) d_Mod_count_27 (by decide) (fun c => absurd c (by decide)) (fun _ => ?_)
  refine wp_iload_n d_Mod_count_30 rfl 2 rfl ?_
  refine wp_iconst (v := nI 0) d_Mod_count_31 (by decide) ?_
  refine wp_iconst (v := nI 2) d_Mod_count_32 (by decide) ?_
  refine wp_callV (r := 1) d_Mod_count_33 (link_S (av := [.int (nI 1), .int (nI 0), .int (nI 2)]) (rest := [.ref o]) d_Mod_count_33 cal_Mod_in wM_Mod_115 rfl) cal_Mod_in (c_Mod_inT (by omega) (by omega) (by omega)) (Nat.le_of_ble_eq_true rfl) ⟨Nat.le_of_ble_eq_true rfl, Nat.le_of_ble_eq_true rfl⟩ ?_
  refine wp_if_eqB (tgt := 43) d_Mod_count_36 (by decide) (fun c => absurd c (by decide)) (fun _ => ?_)
  refine wp_iconst (v := nI 0) d_Mod_count_39 (by decide) ?_
  refine wp_goto (tgt := 44) d_Mod_count_40 (by decide) ?_
  refine wm_put (Fi' := va_up Fi 0 (nI 0)) d_Mod_count_44 0 (by decide) wF_Mod_111 rfl (by decide) rfl ?_
  refine wp_aload_n d_Mod_count_47 rfl 0 rfl ?_
  refine wm_get d_Mod_count_48 0 (by decide) wF_Mod_111 rfl ?_
  refine wp_toI (z := (nI 0)) (rfl) ?_
  refine wp_if_leN (tgt := 56) d_Mod_count_51 (by decide) (by omega) (fun _ => ?_) (fun c => absurd c (by decide))
  refine wp_iconst (v := nI 0) d_Mod_count_56 (by decide) ?_
  refine wp_istore_n (lv' := [(3, .int (nI 0)), (0, .ref o), (1, .int (nI j)), (2, .int (nI 1))]) d_Mod_count_57 rfl (by decide) rfl ?_
  refine wp_iconst (v := nI 0) d_Mod_count_58 (by decide) ?_
  refine wp_istore (lv' := [(4, .int (nI 0)), (3, .int (nI 0)), (0, .ref o), (1, .int (nI j)), (2, .int (nI 1))]) d_Mod_count_59 (by decide) rfl ?_
  refine wp_lv [0, 1, 2, 3, 4] rfl ?_
  refine l_Mod_count (Fi := va_up Fi 0 (nI 0)) (x := (nI j)) (j := 16 + j) hI hb (show va_up Fi 0 (nI 0) 22 = nI cs.length from hn) hcp (nI_add 16 j) (by omega) ?_ (cs.length + 1) 0 0 (by omega) (by omega) rfl
  refine wp_iload_n d_Mod_count_101 rfl 4 rfl ?_
  refine wp_tableIn (tgt := 139) d_Mod_count_102 (by decide) (by decide) rfl (by decide) ?_
  refine wp_aload_n d_Mod_count_139 rfl 2 rfl ?_
  refine wm_get d_Mod_count_140 34 (by decide) wF_Mod_99 rfl ?_
  refine wp_iload_n d_Mod_count_143 rfl 3 rfl ?_
  refine wm_ild (j := 34) (x := (nI q)) d_Mod_count_144 hI (by decide) (by decide) (by show _ < 6; omega) (by decide) (hq) ?_
  exact wp_iret d_Mod_count_145 rfl ⟨rfl, rfl⟩
set_option maxRecDepth 20000 in
theorem c_Mod_countB2 {G : Gt} {o : Nat} {A : Nat → Nat} {Fi : Nat → Int32} {M : Nat → Nat → Int32} {Ml : Nat → Nat → Int64} (hI : mInj o A) {cs : List (Nat × Nat × Nat × Nat)} (hb : bCp cs) (hn : Fi 22 = nI cs.length) (hcp : RCp cs (M 23)) {j : Nat} (hj : j < 6) : CallR G m_Mod_count 2 27 [.ref o, .int (nI j), .int (nI 2)] (hM o A Fi M Ml) 0 0 (some (.int (nI (cs.countP fun c => c.1 == 16 + j)))) (hM o A (va_up Fi 0 (nI 0)) M Ml) := by
  refine CallS.of (Nat.le_of_ble_eq_true rfl) ?_
  refine wp_aload_n d_Mod_count_0 rfl 0 rfl ?_
  refine wp_iload_n d_Mod_count_1 rfl 1 rfl ?_
  refine wp_iconst (v := -1) d_Mod_count_2 (by decide) ?_
  refine wp_icmp_ne (tgt := 23) d_Mod_count_3 (by decide) (fun _ => ?_) (fun c => absurd c (nI_m1 (by omega)))
  refine wp_iload_n d_Mod_count_23 rfl 1 rfl ?_
  refine wp_callV (r := 1) d_Mod_count_24 (link_S (av := [.int (nI j)]) (rest := [.ref o]) d_Mod_count_24 cal_Mod_isSwitch wM_Mod_123 rfl) cal_Mod_isSwitch (c_Mod_isSwitchT (by omega)) (Nat.le_of_ble_eq_true rfl) ⟨Nat.le_of_ble_eq_true rfl, Nat.le_of_ble_eq_true rfl⟩ ?_
  refine wp_if_eqB (tgt := 43) d_Mod_count_27 (by decide) (fun c => absurd c (by decide)) (fun _ => ?_)
  refine wp_iload_n d_Mod_count_30 rfl 2 rfl ?_
  refine wp_iconst (v := nI 0) d_Mod_count_31 (by decide) ?_
  refine wp_iconst (v := nI 2) d_Mod_count_32 (by decide) ?_
  refine wp_callV (r := 1) d_Mod_count_33 (link_S (av := [.int (nI 2), .int (nI 0), .int (nI 2)]) (rest := [.ref o]) d_Mod_count_33 cal_Mod_in wM_Mod_115 rfl) cal_Mod_in (c_Mod_inT (by omega) (by omega) (by omega)) (Nat.le_of_ble_eq_true rfl) ⟨Nat.le_of_ble_eq_true rfl, Nat.le_of_ble_eq_true rfl⟩ ?_
  refine wp_if_eqB (tgt := 43) d_Mod_count_36 (by decide) (fun c => absurd c (by decide)) (fun _ => ?_)
  refine wp_iconst (v := nI 0) d_Mod_count_39 (by decide) ?_
  refine wp_goto (tgt := 44) d_Mod_count_40 (by decide) ?_
  refine wm_put (Fi' := va_up Fi 0 (nI 0)) d_Mod_count_44 0 (by decide) wF_Mod_111 rfl (by decide) rfl ?_
  refine wp_aload_n d_Mod_count_47 rfl 0 rfl ?_
  refine wm_get d_Mod_count_48 0 (by decide) wF_Mod_111 rfl ?_
  refine wp_toI (z := (nI 0)) (rfl) ?_
  refine wp_if_leN (tgt := 56) d_Mod_count_51 (by decide) (by omega) (fun _ => ?_) (fun c => absurd c (by decide))
  refine wp_iconst (v := nI 0) d_Mod_count_56 (by decide) ?_
  refine wp_istore_n (lv' := [(3, .int (nI 0)), (0, .ref o), (1, .int (nI j)), (2, .int (nI 2))]) d_Mod_count_57 rfl (by decide) rfl ?_
  refine wp_iconst (v := nI 0) d_Mod_count_58 (by decide) ?_
  refine wp_istore (lv' := [(4, .int (nI 0)), (3, .int (nI 0)), (0, .ref o), (1, .int (nI j)), (2, .int (nI 2))]) d_Mod_count_59 (by decide) rfl ?_
  refine wp_lv [0, 1, 2, 3, 4] rfl ?_
  refine l_Mod_count (Fi := va_up Fi 0 (nI 0)) (x := (nI j)) (j := 16 + j) hI hb (show va_up Fi 0 (nI 0) 22 = nI cs.length from hn) hcp (nI_add 16 j) (by omega) ?_ (cs.length + 1) 0 0 (by omega) (by omega) rfl
  refine wp_iload_n d_Mod_count_101 rfl 4 rfl ?_
  refine wp_tableIn (tgt := 146) d_Mod_count_102 (by decide) (by decide) rfl (by decide) ?_
  refine wp_iload_n d_Mod_count_146 rfl 1 rfl ?_
  exact wp_iret d_Mod_count_147 rfl ⟨rfl, rfl⟩
theorem c_Mod_count {G : Gt} {o : Nat} {A : Nat → Nat} {Fi : Nat → Int32} {M : Nat → Nat → Int32} {Ml : Nat → Nat → Int64} {s : Sa} {n : Nat} (hI : mInj o A) (hR : RepM s Fi M Ml) (hV : Inv n s) (x w : Int32) : CallE G m_Mod_count 2 27 [.ref o, .int x, .int w] (hM o A Fi M Ml) 0 0 (some (.int (stCount s x w).2.1)) (RefOK o A (stCount s x w)) := by
  have hb := c_bCp hV
  by_cases hx : x = -1
  · subst hx
    cases hw : inZ w (nI 3) (nI 4) with
    | false =>
      have e : stCount s (-1) w = (1, 0, s) := by
        have h3 : ¬ w = nI 3 := fun q => by rw [q] at hw; exact absurd hw (by decide)
        have h4 : ¬ w = nI 4 := fun q => by rw [q] at hw; exact absurd hw (by decide)
        simp [stCount, h3, h4]
      rw [e]
      exact CallR.E (c_Mod_count0 ⟨fun _ => hw, fun q => absurd rfl q⟩) ⟨_, _, _, rfl, hR, rfl⟩
    | true =>
      obtain ⟨p, h3, h4, rfl⟩ := inZ_w (by decide) (by decide) hw
      obtain rfl | rfl : p = 3 ∨ p = 4 := by omega
      · rw [show stCount s (-1) (nI 3) = (0, nI (sMin s), s) by unfold stCount; rw [if_pos rfl, if_pos rfl]]
        exact CallR.E (CallR.up (c_Mod_countA3 hI hb hR.fi.2.2.2 hR.cp hR.fi.1) (by decide) (by decide)) ⟨_, _, _, rfl, hR, rfl⟩
      · rw [show stCount s (-1) (nI 4) = (0, nI (sMs s).length, s) by unfold stCount; rw [if_pos rfl, if_neg (by decide), if_pos rfl]]
        exact CallR.E (CallR.up (c_Mod_countA4 hI hb hR.fi.2.2.2 hR.cp hR.fi.2.2.1) (by decide) (by decide)) ⟨_, _, _, rfl, hR, rfl⟩
  · cases hs : swB x && inZ w (nI 0) (nI 2) with
    | false =>
      have e : stCount s x w = (1, 0, s) := by
        unfold stCount
        rw [if_neg hx]
        cases hs1 : swB x with
        | false => rfl
        | true =>
          rw [hs1] at hs
          have h3 : ¬ w = nI 0 := fun q => by rw [q] at hs; exact absurd hs (by decide)
          have h4 : ¬ w = nI 1 := fun q => by rw [q] at hs; exact absurd hs (by decide)
          have h5 : ¬ w = nI 2 := fun q => by rw [q] at hs; exact absurd hs (by decide)
          simp [h3, h4, h5]
      rw [e]
      exact CallR.E (c_Mod_count0 ⟨fun q => absurd q hx, fun _ => hs⟩) ⟨_, _, _, rfl, hR, rfl⟩
    | true =>
      rw [Bool.and_eq_true] at hs
      obtain ⟨j, hj, rfl⟩ := swB_of hs.1
      obtain ⟨p, h3, h4, rfl⟩ := inZ_w (by decide) (by decide) hs.2
      have e : ∀ w, stCount s (nI j) w = if w = nI 0 then (0, nI (sUn s j), s) else if w = nI 1 then (0, nI (sDb s j), s) else if w = nI 2 then (0, nI ((sCp s).countP fun c => c.1 == 16 + j), s) else (1, 0, s) := fun w => by
        unfold stCount
        rw [if_neg hx, if_pos hs.1, nN_nI (by omega)]
      rw [e]
      obtain rfl | rfl | rfl : p = 0 ∨ p = 1 ∨ p = 2 := by omega
      · exact CallR.E (c_Mod_countB0 hI hb hR.fi.2.2.2 hR.cp hj (hR.un j hj)) ⟨_, _, _, rfl, hR, rfl⟩
      · exact CallR.E (c_Mod_countB1 hI hb hR.fi.2.2.2 hR.cp hj (hR.db j hj)) ⟨_, _, _, rfl, hR, rfl⟩
      · exact CallR.E (c_Mod_countB2 hI hb hR.fi.2.2.2 hR.cp hj) ⟨_, _, _, rfl, hR, rfl⟩
end Mod13
