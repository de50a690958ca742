section Mod16
theorem drop_s {l : List (Nat × Int32)} {t : Nat} (ht : t < l.length) : ∃ p, l.reverse[t]? = some p ∧ p ∈ l ∧ l.drop (l.length - (t + 1)) = p :: l.drop (l.length - t) := by
  have hi : l.length - (t + 1) < l.length := by omega
  refine ⟨l[l.length - (t + 1)], ?_, List.getElem_mem hi, ?_⟩
  · rw [List.getElem?_reverse ht, show l.length - 1 - t = l.length - (t + 1) by omega, List.getElem?_eq_getElem hi]
  · rw [List.drop_eq_getElem_cons hi, show l.length - (t + 1) + 1 = l.length - t by omega]
theorem nI_m (t : Nat) : nI (t + 1) - nI 1 = nI t := pk_sub (a := t + 1) (b := 1) (by omega)
theorem inZ_k {k : Int32} {q : Nat} (hq : q < 2 ^ 31) (h : inZ k (nI 0) (nI q - nI 1) = false) : k < 0 ∨ q ≤ nN k := by
  rcases Int32.lt_or_le k 0 with h0 | h0
  · exact Or.inl h0
  · right
    obtain ⟨j, hj, rfl⟩ := nI_of (Int32.not_lt.mpr h0)
    rw [nN_nI hj]
    cases q with
    | zero => omega
    | succ q =>
      rw [nI_m, inZ_nI hj (by decide) (by omega)] at h
      simp at h
      omega
theorem inZ_k2 {k : Int32} {q : Nat} (hq : q < 2 ^ 31) (h : inZ k (nI 0) (nI q - nI 1) = true) : ∃ j, j < q ∧ k = nI j := by
  cases q with
  | zero =>
    unfold inZ at h
    simp only [decide_eq_true_eq] at h
    have := Int32.le_trans h.1 h.2
    exact absurd this (by decide)
  | succ q =>
    rw [nI_m] at h
    obtain ⟨j, _, hj, rfl⟩ := inZ_w (by decide) (by omega) h
    exact ⟨j, by omega, rfl⟩
set_option maxRecDepth 20000 in
theorem c_Mod_read0 {G : Gt} {o : Nat} {A : Nat → Nat} {Fi : Nat → Int32} {M : Nat → Nat → Int32} {Ml : Nat → Nat → Int64} {x k i : Int32} (hx : swB x = false) : CallR G m_Mod_read 2 27 [.ref o, .int x, .int k, .int i] (hM o A Fi M Ml) 0 0 (some (.int (nI 0))) (hM o A (va_up Fi 0 (nI 1)) M Ml) := by
  refine CallS.of (Nat.le_of_ble_eq_true rfl) ?_
  refine wp_aload_n d_Mod_read_0 rfl 0 rfl ?_
  refine wp_iload_n d_Mod_read_1 rfl 1 rfl ?_
  refine wp_callV (r := 1) d_Mod_read_2 (link_S (av := [.int x]) (rest := [.ref o]) d_Mod_read_2 cal_Mod_isSwitch wM_Mod_123 rfl) cal_Mod_isSwitch (c_Mod_isSwitchF hx) (Nat.le_of_ble_eq_true rfl) ⟨Nat.le_of_ble_eq_true rfl, Nat.le_of_ble_eq_true rfl⟩ ?_
  refine wp_if_eqB (tgt := 12) d_Mod_read_5 (by decide) (fun _ => ?_) (fun c => absurd c (by decide))
  refine wp_iconst (v := nI 1) d_Mod_read_12 (by decide) ?_
  refine wm_put (Fi' := va_up Fi 0 (nI 1)) d_Mod_read_13 0 (by decide) wF_Mod_111 rfl (by decide) rfl ?_
  refine wp_aload_n d_Mod_read_16 rfl 0 rfl ?_
  refine wm_get d_Mod_read_17 0 (by decide) wF_Mod_111 rfl ?_
  refine wp_toI (z := (nI 1)) (rfl) ?_
  refine wp_if_leN (tgt := 25) d_Mod_read_20 (by decide) (by omega) (fun c => absurd c (by decide)) (fun _ => ?_)
  refine wp_iconst (v := nI 0) d_Mod_read_23 (by decide) ?_
  exact wp_iret d_Mod_read_24 rfl ⟨rfl, rfl⟩
set_option maxRecDepth 20000 in
theorem c_Mod_read1 {G : Gt} {o : Nat} {A : Nat → Nat} {Fi : Nat → Int32} {M : Nat → Nat → Int32} {Ml : Nat → Nat → Int64} (hI : mInj o A) {x q : Nat} {k i : Int32} (hx : x < 6) (hq : M 35 x = nI q) (hk : inZ k (nI 0) (nI q - nI 1) = false) : CallR G m_Mod_read 2 27 [.ref o, .int (nI x), .int k, .int i] (hM o A Fi M Ml) 0 0 (some (.int (-1))) (hM o A (va_up Fi 0 (nI 0)) M Ml) := by
  refine CallS.of (Nat.le_of_ble_eq_true rfl) ?_
  refine wp_aload_n d_Mod_read_0 rfl 0 rfl ?_
  refine wp_iload_n d_Mod_read_1 rfl 1 rfl ?_
  refine wp_callV (r := 1) d_Mod_read_2 (link_S (av := [.int (nI x)]) (rest := [.ref o]) d_Mod_read_2 cal_Mod_isSwitch wM_Mod_123 rfl) cal_Mod_isSwitch (c_Mod_isSwitchT (by omega)) (Nat.le_of_ble_eq_true rfl) ⟨Nat.le_of_ble_eq_true rfl, Nat.le_of_ble_eq_true rfl⟩ ?_
  refine wp_if_eqB (tgt := 12) d_Mod_read_5 (by decide) (fun c => absurd c (by decide)) (fun _ => ?_)
  refine wp_iconst (v := nI 0) d_Mod_read_8 (by decide) ?_
  refine wp_goto (tgt := 13) d_Mod_read_9 (by decide) ?_
  refine wm_put (Fi' := va_up Fi 0 (nI 0)) d_Mod_read_13 0 (by decide) wF_Mod_111 rfl (by decide) rfl ?_
  refine wp_aload_n d_Mod_read_16 rfl 0 rfl ?_
  refine wm_get d_Mod_read_17 0 (by decide) wF_Mod_111 rfl ?_
  refine wp_toI (z := (nI 0)) (rfl) ?_
  refine wp_if_leN (tgt := 25) d_Mod_read_20 (by decide) (by omega) (fun _ => ?_) (fun c => absurd c (by decide))
  refine wp_iload_n d_Mod_read_25 rfl 2 rfl ?_
  refine wp_iconst (v := nI 0) d_Mod_read_26 (by decide) ?_
  refine wp_aload_n d_Mod_read_27 rfl 0 rfl ?_
  refine wm_get d_Mod_read_28 35 (by decide) wF_Mod_102 rfl ?_
  refine wp_iload_n d_Mod_read_31 rfl 1 rfl ?_
  refine wm_ild (j := 35) (x := (nI q)) d_Mod_read_32 hI (by decide) (by decide) (by show _ < 6; omega) (by decide) (hq) ?_
  refine wp_iconst (v := nI 1) d_Mod_read_33 (by decide) ?_
  refine wp_isub d_Mod_read_34 ?_
  refine wp_callV (r := 0) d_Mod_read_35 (link_S (av := [.int k, .int (nI 0), .int ((nI q) - (nI 1))]) (rest := []) d_Mod_read_35 cal_Mod_in wM_Mod_115 rfl) cal_Mod_in (c_Mod_inF hk) (Nat.le_of_ble_eq_true rfl) ⟨Nat.le_of_ble_eq_true rfl, Nat.le_of_ble_eq_true rfl⟩ ?_
  refine wp_if_neB (tgt := 43) d_Mod_read_38 (by decide) (fun c => absurd c (by decide)) (fun _ => ?_)
  refine wp_iconst (v := -1) d_Mod_read_41 (by decide) ?_
  exact wp_iret d_Mod_read_42 rfl ⟨rfl, rfl⟩
set_option maxRecDepth 20000 in
theorem c_Mod_read2 {G : Gt} {o : Nat} {A : Nat → Nat} {Fi : Nat → Int32} {M : Nat → Nat → Int32} {Ml : Nat → Nat → Int64} (hI : mInj o A) {x q k m ln : Nat} {i : Int32} (hx : x < 6) (hq : M 35 x = nI q) (hq2 : q ≤ 200) (hk : k < q) (hm : M 36 (200 * x + k) = nI m) (hm2 : m ≤ 200) (hln : M 17 m = nI ln) (hi : inZ i (nI 0) (nI ln - nI 1) = false) : CallR G m_Mod_read 2 27 [.ref o, .int (nI x), .int (nI k), .int i] (hM o A Fi M Ml) 0 0 (some (.int (-1))) (hM o A (va_up Fi 0 (nI 0)) M Ml) := by
  refine CallS.of (Nat.le_of_ble_eq_true rfl) ?_
  refine wp_aload_n d_Mod_read_0 rfl 0 rfl ?_
  refine wp_iload_n d_Mod_read_1 rfl 1 rfl ?_
  refine wp_callV (r := 1) d_Mod_read_2 (link_S (av := [.int (nI x)]) (rest := [.ref o]) d_Mod_read_2 cal_Mod_isSwitch wM_Mod_123 rfl) cal_Mod_isSwitch (c_Mod_isSwitchT (by omega)) (Nat.le_of_ble_eq_true rfl) ⟨Nat.le_of_ble_eq_true rfl, Nat.le_of_ble_eq_true rfl⟩ ?_
  refine wp_if_eqB (tgt := 12) d_Mod_read_5 (by decide) (fun c => absurd c (by decide)) (fun _ => ?_)
  refine wp_iconst (v := nI 0) d_Mod_read_8 (by decide) ?_
  refine wp_goto (tgt := 13) d_Mod_read_9 (by decide) ?_
  refine wm_put (Fi' := va_up Fi 0 (nI 0)) d_Mod_read_13 0 (by decide) wF_Mod_111 rfl (by decide) rfl ?_
  refine wp_aload_n d_Mod_read_16 rfl 0 rfl ?_
  refine wm_get d_Mod_read_17 0 (by decide) wF_Mod_111 rfl ?_
  refine wp_toI (z := (nI 0)) (rfl) ?_
  refine wp_if_leN (tgt := 25) d_Mod_read_20 (by decide) (by omega) (fun _ => ?_) (fun c => absurd c (by decide))
  refine wp_iload_n d_Mod_read_25 rfl 2 rfl ?_
  refine wp_iconst (v := nI 0) d_Mod_read_26 (by decide) ?_
  refine wp_aload_n d_Mod_read_27 rfl 0 rfl ?_
  refine wm_get d_Mod_read_28 35 (by decide) wF_Mod_102 rfl ?_
  refine wp_iload_n d_Mod_read_31 rfl 1 rfl ?_
  refine wm_ild (j := 35) (x := (nI q)) d_Mod_read_32 hI (by decide) (by decide) (by show _ < 6; omega) (by decide) (hq) ?_
  refine wp_iconst (v := nI 1) d_Mod_read_33 (by decide) ?_
  refine wp_isubN d_Mod_read_34 (by omega) ?_
  refine wp_callV (r := 0) d_Mod_read_35 (link_S (av := [.int (nI k), .int (nI 0), .int (nI (q - 1))]) (rest := []) d_Mod_read_35 cal_Mod_in wM_Mod_115 rfl) cal_Mod_in (c_Mod_inT (by omega) (by omega) (by omega)) (Nat.le_of_ble_eq_true rfl) ⟨Nat.le_of_ble_eq_true rfl, Nat.le_of_ble_eq_true rfl⟩ ?_
  refine wp_if_neB (tgt := 43) d_Mod_read_38 (by decide) (fun _ => ?_) (fun c => absurd c (by decide))
  refine wp_aload_n d_Mod_read_43 rfl 0 rfl ?_
  refine wm_get d_Mod_read_44 36 (by decide) wF_Mod_105 rfl ?_
  refine wp_sipush (v := nI 200) d_Mod_read_47 (by decide) ?_
  refine wp_iload_n d_Mod_read_50 rfl 1 rfl ?_
  refine wp_imulN d_Mod_read_51 ?_
  refine wp_iload_n d_Mod_read_52 rfl 2 rfl ?_
  refine wp_iaddN d_Mod_read_53 ?_
  refine wm_ild (j := 36) (x := (nI m)) d_Mod_read_54 hI (by decide) (by decide) (by show _ < 1200; omega) (by decide) (hm) ?_
  refine wp_istore (lv' := [(4, .int (nI m)), (0, .ref o), (1, .int (nI x)), (2, .int (nI k)), (3, .int i)]) d_Mod_read_55 (by decide) rfl ?_
  refine wp_iload_n d_Mod_read_57 rfl 4 rfl ?_
  refine wp_iconst (v := nI 0) d_Mod_read_58 (by decide) ?_
  refine wp_aload_n d_Mod_read_59 rfl 1 rfl ?_
  refine wm_get d_Mod_read_60 17 (by decide) wF_Mod_51 rfl ?_
  refine wp_iload d_Mod_read_63 0 rfl ?_
  refine wm_ild (j := 17) (x := (nI ln)) d_Mod_read_65 hI (by decide) (by decide) (by show _ < 201; omega) (by decide) (hln) ?_
  refine wp_iconst (v := nI 1) d_Mod_read_66 (by decide) ?_
  refine wp_isub d_Mod_read_67 ?_
  refine wp_callV (r := 0) d_Mod_read_68 (link_S (av := [.int i, .int (nI 0), .int ((nI ln) - (nI 1))]) (rest := []) d_Mod_read_68 cal_Mod_in wM_Mod_115 rfl) cal_Mod_in (c_Mod_inF hi) (Nat.le_of_ble_eq_true rfl) ⟨Nat.le_of_ble_eq_true rfl, Nat.le_of_ble_eq_true rfl⟩ ?_
  refine wp_if_neB (tgt := 76) d_Mod_read_71 (by decide) (fun c => absurd c (by decide)) (fun _ => ?_)
  refine wp_iconst (v := -1) d_Mod_read_74 (by decide) ?_
  exact wp_iret d_Mod_read_75 rfl ⟨rfl, rfl⟩
set_option maxRecDepth 20000 in
theorem l_Mod_read {G : Gt} {B : Bt} {o : Nat} {A : Nat → Nat} {Fi : Nat → Int32} {M : Nat → Nat → Int32} {Ml : Nat → Nat → Int64} (hI : mInj o A) {lg : List (Nat × Int32)} (hlg : RLg lg (M 3) (M 4) (M 5)) (hlen : lg.length ≤ 8000) (hp : ∀ p ∈ lg, p.1 < 1600) {z : Nat} (hz : z < 1600) {v : Nat} (hB : Bd B = 2 ∧ Bw B = 27) (KK : ∀ lv, WP G m_Mod_read B 154 lv [.int (nI v)] (hM o A Fi M Ml) 0 0) : ∀ (t : Nat), t ≤ lg.length → v = txtR (lg.drop (lg.length - t)) z → WP G m_Mod_read B 87 [(5, .int (nI t - nI 1)), (0, .ref o), (3, .int (nI z))] [] (hM o A Fi M Ml) 0 0 := by
  intro t
  induction t with
  | zero =>
    intro _ hv
    rw [Nat.sub_zero, List.drop_length] at hv
    rw [show nI 0 - nI 1 = -1 by decide]
    refine wp_iload d_Mod_read_87 0 rfl ?_
    refine wp_if_lt (tgt := 121) d_Mod_read_89 (by decide) (fun _ => ?_) (fun c => absurd (by decide) c)
    refine wp_iload d_Mod_read_121 0 rfl ?_
    refine wp_if_ge (tgt := 130) d_Mod_read_123 (by decide) (fun c => absurd c (by decide)) (fun _ => ?_)
    refine wp_iconst (v := nI 0) d_Mod_read_126 (by decide) ?_
    refine wp_goto (tgt := 154) d_Mod_read_127 (by decide) ?_
    rw [show v = 0 from hv] at KK
    exact KK _
  | succ t ih =>
    intro ht hv
    rw [nI_m]
    obtain ⟨p, hp0, hp1, hp2⟩ := drop_s (l := lg) (t := t) (by omega)
    have hp3 := hp p hp1
    rw [hp2] at hv
    unfold txtR at hv
    have hr := hlg.1 t p hp0
    refine wp_iload d_Mod_read_87 0 rfl ?_
    refine wp_if_ltN (tgt := 121) d_Mod_read_89 (by decide) (by omega) ?_
    refine wp_iload_n d_Mod_read_92 rfl 2 rfl ?_
    refine wp_aload_n d_Mod_read_93 rfl 1 rfl ?_
    refine wm_get d_Mod_read_94 3 (by decide) wF_Mod_7 rfl ?_
    refine wp_iload d_Mod_read_97 0 rfl ?_
    refine wm_ild (j := 3) (x := (nI (p.1))) d_Mod_read_99 hI (by decide) (by decide) (by show _ < 8000; omega) (by decide) (hr.1) ?_
    refine wp_aload_n d_Mod_read_100 rfl 1 rfl ?_
    refine wm_get d_Mod_read_101 3 (by decide) wF_Mod_7 rfl ?_
    refine wp_iload d_Mod_read_104 0 rfl ?_
    refine wm_ild (j := 3) (x := (nI (p.1))) d_Mod_read_106 hI (by decide) (by decide) (by show _ < 8000; omega) (by decide) (hr.1) ?_
    refine wp_iconst (v := nI 3) d_Mod_read_107 (by decide) ?_
    refine wp_iaddN d_Mod_read_108 ?_
    refine wp_callV (r := 0) d_Mod_read_109 (link_S (av := [.int (nI z), .int (nI (p.1)), .int (nI ((p.1) + 3))]) (rest := []) d_Mod_read_109 cal_Mod_in wM_Mod_115 rfl) cal_Mod_in (c_Mod_in (nI z) (nI (p.1)) (nI ((p.1) + 3))) (Nat.le_of_ble_eq_true rfl) ⟨by rw [hB.1]; decide, by rw [hB.2]; decide⟩ ?_
    refine wp_if_neB (tgt := 121) d_Mod_read_112 (by decide) (fun c112 => ?_) (fun c112 => ?_)
    · have hc : p.1 ≤ z ∧ z < p.1 + 4 := by rw [inZ_nI (by omega) (by omega) (by omega)] at c112; simp at c112; omega
      rw [if_pos hc] at hv
      refine wp_iload d_Mod_read_121 0 rfl ?_
      refine wp_if_geN (tgt := 130) d_Mod_read_123 (by decide) (by omega) ?_
      refine wp_aload_n d_Mod_read_130 rfl 1 rfl ?_
      refine wm_get d_Mod_read_131 4 (by decide) wF_Mod_13 rfl ?_
      refine wp_iload d_Mod_read_134 0 rfl ?_
      refine wm_ild (j := 4) (x := (p.2)) d_Mod_read_136 hI (by decide) (by decide) (by show _ < 8000; omega) (by decide) (hr.2) ?_
      refine wp_bipush (v := nI 8) d_Mod_read_137 (by decide) ?_
      refine wp_iload_n d_Mod_read_139 rfl 2 rfl ?_
      refine wp_aload_n d_Mod_read_140 rfl 1 rfl ?_
      refine wm_get d_Mod_read_141 3 (by decide) wF_Mod_7 rfl ?_
      refine wp_iload d_Mod_read_144 0 rfl ?_
      refine wm_ild (j := 3) (x := (nI (p.1))) d_Mod_read_146 hI (by decide) (by decide) (by show _ < 8000; omega) (by decide) (hr.1) ?_
      refine wp_isubN d_Mod_read_147 (by omega) ?_
      refine wp_imulN d_Mod_read_148 ?_
      refine wp_ishr d_Mod_read_149 ?_
      refine wp_sipush (v := nI 255) d_Mod_read_150 (by decide) ?_
      refine wp_iand d_Mod_read_153 ?_
      refine wp_toI (z := nI v) (by rw [byteI _ (by omega), hv]) ?_
      exact KK _
    · have hc : ¬ (p.1 ≤ z ∧ z < p.1 + 4) := fun q => absurd c112 (by rw [inZ_nI (by omega) (by omega) (by omega)]; simp; omega)
      rw [if_neg hc] at hv
      refine wp_iinc (lv' := [(5, .int (nI t - nI 1)), (0, .ref o), (3, .int (nI z))]) d_Mod_read_115 0 rfl (by rw [Int32.sub_eq_add_neg]; rfl) (by decide) rfl ?_
      refine wp_goto (tgt := 87) d_Mod_read_118 (by decide) ?_
      exact ih (by omega) hv
set_option maxRecDepth 20000 in
theorem c_Mod_read3 {G : Gt} {o : Nat} {A : Nat → Nat} {Fi : Nat → Int32} {M : Nat → Nat → Int32} {Ml : Nat → Nat → Int64} (hI : mInj o A) {x q k m ln th v : Nat} {z : Nat} (hx : x < 6) (hq : M 35 x = nI q) (hq2 : q ≤ 200) (hk : k < q) (hm : M 36 (200 * x + k) = nI m) (hm2 : m ≤ 200) (hln : M 17 m = nI ln) (hln2 : ln ≤ 1600) (hz : z < ln) (hth : M 16 m = nI th) {lg : List (Nat × Int32)} (hth2 : th ≤ lg.length) (hlg : RLg lg (M 3) (M 4) (M 5)) (hlen : lg.length ≤ 8000) (hp : ∀ p ∈ lg, p.1 < 1600) (hv : v = txtR (lg.drop (lg.length - th)) z) : CallR G m_Mod_read 2 27 [.ref o, .int (nI x), .int (nI k), .int (nI z)] (hM o A Fi M Ml) 0 0 (some (.int (nI v))) (hM o A (va_up Fi 0 (nI 0)) M Ml) := by
  refine CallS.of (Nat.le_of_ble_eq_true rfl) ?_
  refine wp_aload_n d_Mod_read_0 rfl 0 rfl ?_
  refine wp_iload_n d_Mod_read_1 rfl 1 rfl ?_
  refine wp_callV (r := 1) d_Mod_read_2 (link_S (av := [.int (nI x)]) (rest := [.ref o]) d_Mod_read_2 cal_Mod_isSwitch wM_Mod_123 rfl) cal_Mod_isSwitch (c_Mod_isSwitchT (by omega)) (Nat.le_of_ble_eq_true rfl) ⟨Nat.le_of_ble_eq_true rfl, Nat.le_of_ble_eq_true rfl⟩ ?_
  refine wp_if_eqB (tgt := 12) d_Mod_read_5 (by decide) (fun c => absurd c (by decide)) (fun _ => ?_)
  refine wp_iconst (v := nI 0) d_Mod_read_8 (by decide) ?_
  refine wp_goto (tgt := 13) d_Mod_read_9 (by decide) ?_
  refine wm_put (Fi' := va_up Fi 0 (nI 0)) d_Mod_read_13 0 (by decide) wF_Mod_111 rfl (by decide) rfl ?_
  refine wp_aload_n d_Mod_read_16 rfl 0 rfl ?_
  refine wm_get d_Mod_read_17 0 (by decide) wF_Mod_111 rfl ?_
  refine wp_toI (z := (nI 0)) (rfl) ?_
  refine wp_if_leN (tgt := 25) d_Mod_read_20 (by decide) (by omega) (fun _ => ?_) (fun c => absurd c (by decide))
  refine wp_iload_n d_Mod_read_25 rfl 2 rfl ?_
  refine wp_iconst (v := nI 0) d_Mod_read_26 (by decide) ?_
  refine wp_aload_n d_Mod_read_27 rfl 0 rfl ?_
  refine wm_get d_Mod_read_28 35 (by decide) wF_Mod_102 rfl ?_
  refine wp_iload_n d_Mod_read_31 rfl 1 rfl ?_
  refine wm_ild (j := 35) (x := (nI q)) d_Mod_read_32 hI (by decide) (by decide) (by show _ < 6; omega) (by decide) (hq) ?_
  refine wp_iconst (v := nI 1) d_Mod_read_33 (by decide) ?_
  refine wp_isubN d_Mod_read_34 (by omega) ?_
  refine wp_callV (r := 0) d_Mod_read_35 (link_S (av := [.int (nI k), .int (nI 0), .int (nI (q - 1))]) (rest := []) d_Mod_read_35 cal_Mod_in wM_Mod_115 rfl) cal_Mod_in (c_Mod_inT (by omega) (by omega) (by omega)) (Nat.le_of_ble_eq_true rfl) ⟨Nat.le_of_ble_eq_true rfl, Nat.le_of_ble_eq_true rfl⟩ ?_
  refine wp_if_neB (tgt := 43) d_Mod_read_38 (by decide) (fun _ => ?_) (fun c => absurd c (by decide))
  refine wp_aload_n d_Mod_read_43 rfl 0 rfl ?_
  refine wm_get d_Mod_read_44 36 (by decide) wF_Mod_105 rfl ?_
  refine wp_sipush (v := nI 200) d_Mod_read_47 (by decide) ?_
  refine wp_iload_n d_Mod_read_50 rfl 1 rfl ?_
  refine wp_imulN d_Mod_read_51 ?_
  refine wp_iload_n d_Mod_read_52 rfl 2 rfl ?_
  refine wp_iaddN d_Mod_read_53 ?_
  refine wm_ild (j := 36) (x := (nI m)) d_Mod_read_54 hI (by decide) (by decide) (by show _ < 1200; omega) (by decide) (hm) ?_
  refine wp_istore (lv' := [(4, .int (nI m)), (0, .ref o), (1, .int (nI x)), (2, .int (nI k)), (3, .int (nI z))]) d_Mod_read_55 (by decide) rfl ?_
  refine wp_iload_n d_Mod_read_57 rfl 4 rfl ?_
  refine wp_iconst (v := nI 0) d_Mod_read_58 (by decide) ?_
  refine wp_aload_n d_Mod_read_59 rfl 1 rfl ?_
  refine wm_get d_Mod_read_60 17 (by decide) wF_Mod_51 rfl ?_
  refine wp_iload d_Mod_read_63 0 rfl ?_
  refine wm_ild (j := 17) (x := (nI ln)) d_Mod_read_65 hI (by decide) (by decide) (by show _ < 201; omega) (by decide) (hln) ?_
  refine wp_iconst (v := nI 1) d_Mod_read_66 (by decide) ?_
  refine wp_isubN d_Mod_read_67 (by omega) ?_
  refine wp_callV (r := 0) d_Mod_read_68 (link_S (av := [.int (nI z), .int (nI 0), .int (nI (ln - 1))]) (rest := []) d_Mod_read_68 cal_Mod_in wM_Mod_115 rfl) cal_Mod_in (c_Mod_inT (by omega) (by omega) (by omega)) (Nat.le_of_ble_eq_true rfl) ⟨Nat.le_of_ble_eq_true rfl, Nat.le_of_ble_eq_true rfl⟩ ?_
  refine wp_if_neB (tgt := 76) d_Mod_read_71 (by decide) (fun _ => ?_) (fun c => absurd c (by decide))
  refine wp_aload_n d_Mod_read_76 rfl 1 rfl ?_
  refine wm_get d_Mod_read_77 16 (by decide) wF_Mod_48 rfl ?_
  refine wp_iload d_Mod_read_80 0 rfl ?_
  refine wm_ild (j := 16) (x := (nI th)) d_Mod_read_82 hI (by decide) (by decide) (by show _ < 201; omega) (by decide) (hth) ?_
  refine wp_iconst (v := nI 1) d_Mod_read_83 (by decide) ?_
  refine wp_isub d_Mod_read_84 ?_
  refine wp_istore (lv' := [(5, .int ((nI th) - (nI 1))), (4, .int (nI m)), (0, .ref o), (1, .int (nI x)), (2, .int (nI k)), (3, .int (nI z))]) d_Mod_read_85 (by decide) rfl ?_
  refine wp_lv [0, 2, 5] rfl ?_
  refine l_Mod_read (v := v) hI hlg hlen hp (by omega) ⟨rfl, rfl⟩ (fun lv => ?_) th hth2 hv
  exact wp_iret d_Mod_read_154 rfl ⟨rfl, rfl⟩
theorem nodup_le : ∀ {N : Nat} {l : List Nat}, l.Nodup → (∀ x ∈ l, x < N) → l.length ≤ N
  | 0, l, _, h => by
    cases l with
    | nil => exact Nat.le_refl _
    | cons a l => exact absurd (h a List.mem_cons_self) (by omega)
  | N + 1, l, hn, h => by
    by_cases hN : N ∈ l
    · have h1 := nodup_le (N := N) (l := l.erase N) (hn.erase N) (fun x hx => by
        have h2 := (List.Nodup.mem_erase_iff hn).mp hx
        have := h x h2.2
        have := h2.1
        omega)
      rw [List.length_erase_of_mem hN] at h1
      omega
    · have := nodup_le (N := N) hn (fun x hx => by
        have := h x hx
        have : x ≠ N := fun e => hN (e ▸ hx)
        omega)
      omega
theorem dk_nodup {l : List Nat} {N : Nat} (hn : l.Nodup) (h : ∀ m ∈ l, 1 ≤ m ∧ m ≤ N) : l.length ≤ N := by
  have h1 := nodup_le (N := N) (l := l.map (· - 1)) (by
    refine List.pairwise_map.mpr (List.Pairwise.imp_of_mem (fun {a b} ha hb hab => ?_) hn)
    have := h a ha
    have := h b hb
    omega) (fun x hx => by
    obtain ⟨a, ha, rfl⟩ := List.mem_map.mp hx
    have := h a ha
    omega)
  rw [List.length_map] at h1
  exact h1
theorem dk_len {n : Nat} {s : Sa} (hV : Inv n s) (x : Nat) : (sDk s x).length ≤ 200 :=
  Nat.le_trans (dk_nodup (hV.2.2.1.2.2.2.2 x).1 (hV.2.2.1.2.2.2.2 x).2) hV.2.1.2.2.2.2.2.2.1
theorem c_Mod_read {G : Gt} {o : Nat} {A : Nat → Nat} {Fi : Nat → Int32} {M : Nat → Nat → Int32} {Ml : Nat → Nat → Int64} {s : Sa} {n : Nat} (hI : mInj o A) (hR : RepM s Fi M Ml) (hV : Inv n s) (x k i : Int32) : CallE G m_Mod_read 2 27 [.ref o, .int x, .int k, .int i] (hM o A Fi M Ml) 0 0 (some (.int (stRead s x k i).2.1)) (RefOK o A (stRead s x k i)) := by
  have hms := hV.2.1.2.2.2.2.2.2.1
  have hlog := hV.2.1.2.1
  have hn := hV.1
  cases hx : swB x with
  | false =>
    rw [show stRead s x k i = (1, 0, s) by unfold stRead; rw [hx]; rfl]
    exact CallR.E (CallR.up (c_Mod_read0 hx) (by decide) (by decide)) ⟨_, _, _, rfl, hR, rfl⟩
  | true =>
    obtain ⟨j, hj, rfl⟩ := swB_of hx
    have hdk := hR.dk j hj
    have hdl := dk_len hV j
    have e0 : stRead s (nI j) k i = if k < 0 then (0, -1, s) else match (sDk s j)[nN k]? with
      | none => (0, -1, s)
      | some m => if i < 0 ∨ ((sMs s).getD (m - 1) (0, [], 0, 0)).2.2.1 ≤ nN i then (0, -1, s) else (0, nI (textAt s ((sMs s).getD (m - 1) (0, [], 0, 0)) (nN i)), s) := by
      unfold stRead
      rw [if_pos hx, nN_nI (by omega)]
      rfl
    cases hk : inZ k (nI 0) (nI (sDk s j).length - nI 1) with
    | false =>
      have e1 : stRead s (nI j) k i = (0, -1, s) := by
        rw [e0]
        rcases inZ_k (by omega) hk with h | h
        · rw [if_pos h]
        · rw [List.getElem?_eq_none h]
          simp
      rw [e1]
      exact CallR.E (CallR.up (c_Mod_read1 hI hj hdk.1 hk) (by decide) (by decide)) ⟨_, _, _, rfl, hR, rfl⟩
    | true =>
      obtain ⟨q, hq, rfl⟩ := inZ_k2 (by omega) hk
      obtain ⟨m, hm⟩ := get_of hq
      have hmm := (hV.2.2.1.2.2.2.2 j).2 m (List.mem_of_getElem? hm)
      obtain ⟨r, hr0, hr1, hr2, hr3, hr4, hr5, hr6, hr7⟩ := RMs_at hR.ms hmm.1 hmm.2
      have hok := hV.ms hr2
      have e1 : stRead s (nI j) (nI q) i = if i < 0 ∨ r.2.2.1 ≤ nN i then (0, -1, s) else (0, nI (textAt s r (nN i)), s) := by
        rw [e0, if_neg (nI_pos (by omega)), nN_nI (by omega), hm]
        simp only [hr1]
      have hln := hok.2.2.2.2.1
      cases hi : inZ i (nI 0) (nI r.2.2.1 - nI 1) with
      | false =>
        rw [e1, if_pos (inZ_k (by omega) hi)]
        exact CallR.E (CallR.up (c_Mod_read2 hI hj hdk.1 hdl hq (hdk.2 q m hm) (by omega) hr4 hi) (by decide) (by decide)) ⟨_, _, _, rfl, hR, rfl⟩
      | true =>
        obtain ⟨z, hz, rfl⟩ := inZ_k2 (by omega) hi
        rw [e1, if_neg (by rw [nN_nI (by omega)]; exact fun q => q.elim (nI_pos (by omega)) (by omega)), nN_nI (by omega)]
        exact CallR.E (CallR.up (c_Mod_read3 hI hj hdk.1 hdl hq (hdk.2 q m hm) (by omega) hr4 hln hz hr3 hok.2.2.2.2.2 hR.lg (by omega) hV.2.1.2.2.1 rfl) (by decide) (by decide)) ⟨_, _, _, rfl, hR, rfl⟩
end Mod16
