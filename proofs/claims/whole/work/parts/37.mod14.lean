section Mod14
theorem c_Mod_isChannelT {G : Gt} {o : Nat} {A : Nat → Nat} {Fi : Nat → Int32} {M : Nat → Nat → Int32} {Ml : Nat → Nat → Int64} {s : Sa} (hI : mInj o A) (hL : RLn s (M 6) (M 7) (M 8) (M 9)) {x z : Int32} (h : chOK s x z = true) : CallR G m_Mod_isChannel 2 28 [.ref o, .int x, .int z] (hM o A Fi M Ml) 0 0 (some (.int (bI true))) (hM o A (va_up Fi 0 (nI 0)) M Ml) :=
  CallR.eq (c_Mod_isChannel (L := lnB s) hI (fun j hj => (hL j hj).1) x z) (by rw [show (hasB (lnB s) x && inZ z (nI 0) (nI 1)) = true from h]) (by rw [show (hasB (lnB s) x && inZ z (nI 0) (nI 1)) = true from h]; rfl)
theorem c_Mod_isChannelF {G : Gt} {o : Nat} {A : Nat → Nat} {Fi : Nat → Int32} {M : Nat → Nat → Int32} {Ml : Nat → Nat → Int64} {s : Sa} (hI : mInj o A) (hL : RLn s (M 6) (M 7) (M 8) (M 9)) {x z : Int32} (h : chOK s x z = false) : CallR G m_Mod_isChannel 2 28 [.ref o, .int x, .int z] (hM o A Fi M Ml) 0 0 (some (.int (bI false))) (hM o A (va_up Fi 0 (nI 1)) M Ml) :=
  CallR.eq (c_Mod_isChannel (L := lnB s) hI (fun j hj => (hL j hj).1) x z) (by rw [show (hasB (lnB s) x && inZ z (nI 0) (nI 1)) = false from h]) (by rw [show (hasB (lnB s) x && inZ z (nI 0) (nI 1)) = false from h]; rfl)
theorem hasB_of {L : Nat → Bool} {x : Int32} (h : hasB L x = true) : ∃ l, l < 8 ∧ x = nI l ∧ L l = true := by
  unfold hasB at h
  rw [Bool.and_eq_true] at h
  obtain ⟨l, hl, rfl⟩ := inZ_of (by decide) h.1
  exact ⟨l, by omega, rfl, by have := h.2; rwa [nI_clamp (by omega)] at this⟩
theorem chOK_of {s : Sa} {x z : Int32} (h : chOK s x z = true) : ∃ l c, l < 8 ∧ c < 2 ∧ x = nI l ∧ z = nI c ∧ (sLn s l).isSome = true := by
  unfold chOK at h
  rw [Bool.and_eq_true] at h
  obtain ⟨l, hl, rfl, h2⟩ := hasB_of h.1
  obtain ⟨c, hc, rfl⟩ := inZ_of (by decide) h.2
  exact ⟨l, c, hl, by omega, rfl, rfl, h2⟩
theorem RMs_at {ms : List (Nat × List (List Nat) × Nat × Nat)} {f16 f17 f18 f19 : Nat → Int32} {g20 : Nat → Int64} (h : RMs ms f16 f17 f18 f19 g20) {m : Nat} (h1 : 1 ≤ m) (h2 : m ≤ ms.length) : ∃ r, ms[m - 1]? = some r ∧ ms.getD (m - 1) (0, [], 0, 0) = r ∧ r ∈ ms ∧ f16 m = nI r.2.2.2 ∧ f17 m = nI r.2.2.1 ∧ f18 m = nI r.1 ∧ f19 m = nI r.2.1.length ∧ ∀ k a, r.2.1[k]? = some a → g20 (7 * m + k) = lN (beN a) := by
  obtain ⟨r, hr⟩ := get_of (l := ms) (i := m - 1) (by omega)
  have := h (m - 1) r hr
  rw [show m - 1 + 1 = m by omega] at this
  exact ⟨r, hr, by rw [List.getD_eq_getElem?_getD, hr]; rfl, List.mem_of_getElem? hr, this⟩
theorem Inv.cp {n : Nat} {s : Sa} (h : Inv n s) {c : Nat × Nat × Nat × Nat} (hc : c ∈ sCp s) : 1 ≤ c.2.1 ∧ c.2.1 ≤ (sMs s).length := ⟨(h.2.2.1.2.2.1 c hc).2.2.1.1, (h.2.2.1.2.2.1 c hc).2.2.1.2.1⟩
theorem Inv.ms {n : Nat} {s : Sa} (h : Inv n s) {r : Nat × List (List Nat) × Nat × Nat} (hr : r ∈ sMs s) : okMs (sLog s).length r := h.2.1.2.2.2.2.2.2.2 r hr
set_option maxRecDepth 20000 in
theorem l_Mod_channel {G : Gt} {B : Bt} {o : Nat} {A : Nat → Nat} {Fi : Nat → Int32} {M : Nat → Nat → Int32} {Ml : Nat → Nat → Int64} {s : Sa} (hI : mInj o A) {n : Nat} (hV : Inv n s) (hR : RepM s Fi M Ml) {j p : Nat} (hj2 : j < 16) (hp : p ≤ 4) (KK : WP G m_Mod_channel B 138 [(6, .int (nI ((sCp s).length))), (5, .int (nI ((sCp s).countP fun q => q.1 == j && prioOf s q.2.1 == p))), (4, .int (nI j)), (0, .ref o), (3, .int (nI p))] [] (hM o A Fi M Ml) 0 0) : ∀ (f i q : Nat), (sCp s).length - i < f → i ≤ (sCp s).length → q = ((sCp s).take i).countP (fun q => q.1 == j && prioOf s q.2.1 == p) → WP G m_Mod_channel B 75 [(6, .int (nI i)), (5, .int (nI q)), (4, .int (nI j)), (0, .ref o), (3, .int (nI p))] [] (hM o A Fi M Ml) 0 0 := by
  have hb := c_bCp hV
  have hlen := hb.1
  intro f
  induction f with
  | zero =>
    intro i q h1
    omega
  | succ f ih =>
    intro i q hf hi hq
    refine wp_iload d_Mod_channel_75 0 rfl ?_
    refine wp_aload_n d_Mod_channel_77 rfl 3 rfl ?_
    refine wm_get d_Mod_channel_78 22 (by decide) wF_Mod_202 rfl ?_
    refine wp_toI (z := (nI ((sCp s).length))) (hR.fi.2.2.2) ?_
    refine wp_geN (tgt := 138) d_Mod_channel_81 (by decide) (by omega) (by omega) (fun c81 => ?_) (fun c81 => ?_)
    · obtain rfl : i = (sCp s).length := by omega
      rw [List.take_length] at hq
      subst hq
      exact KK
    · obtain ⟨c, hc⟩ := get_of c81
      have hcm := List.mem_of_getElem? hc
      have hcb := encC_ok (hb.2 c hcm)
      have hcd := hb.2 c hcm
      obtain ⟨r, hr0, hr1, hr2, hr3, hr4, hr5, hr6⟩ := RMs_at hR.ms (hV.cp hcm).1 (hV.cp hcm).2
      have hr7 := (hV.ms hr2).1
      have hr8 : prioOf s c.2.1 = r.1 := by unfold prioOf; rw [hr1]
      refine wp_iload d_Mod_channel_84 1 rfl ?_
      refine wp_aload_n d_Mod_channel_86 rfl 3 rfl ?_
      refine wm_get d_Mod_channel_87 23 (by decide) wF_Mod_66 rfl ?_
      refine wp_iload d_Mod_channel_90 0 rfl ?_
      refine wm_ild (j := 23) (x := (nI (encC c))) d_Mod_channel_92 hI (by decide) (by decide) (by show _ < 2000; omega) (by decide) (hR.cp i c hc) ?_
      refine wp_bipush (v := nI 20) d_Mod_channel_93 (by decide) ?_
      refine wp_ishrN d_Mod_channel_95 (by omega) (by omega) ?_
      refine wp_toI (z := (nI (c.1))) (congrArg nI hcb.1) ?_
      refine wp_iload d_Mod_channel_96 2 rfl ?_
      refine wp_neN (tgt := 128) d_Mod_channel_98 (by decide) (by omega) (by omega) (fun c98 => ?_) (fun c98 => ?_)
      · refine wp_iconst (v := nI 0) d_Mod_channel_128 (by decide) ?_
        refine wp_iaddN d_Mod_channel_129 ?_
        refine wp_istore (lv' := [(5, .int (nI (q + 0))), (6, .int (nI i)), (4, .int (nI j)), (0, .ref o), (3, .int (nI p))]) d_Mod_channel_130 (by decide) rfl ?_
        refine wp_iinc (lv' := [(6, .int (nI (i + 1))), (5, .int (nI (q + 0))), (4, .int (nI j)), (0, .ref o), (3, .int (nI p))]) d_Mod_channel_132 1 rfl (nI_1 _) (by decide) rfl ?_
        refine wp_goto (tgt := 75) d_Mod_channel_135 (by decide) ?_
        exact ih (i + 1) (q + 0) (by omega) (by omega) (by rw [cntT hc, hq]; first | (simp [c98, c121, hr8]; done) | (simp [c98]; done))
      · refine wp_aload_n d_Mod_channel_101 rfl 3 rfl ?_
        refine wm_get d_Mod_channel_102 18 (by decide) wF_Mod_54 rfl ?_
        refine wp_aload_n d_Mod_channel_105 rfl 3 rfl ?_
        refine wm_get d_Mod_channel_106 23 (by decide) wF_Mod_66 rfl ?_
        refine wp_iload d_Mod_channel_109 0 rfl ?_
        refine wm_ild (j := 23) (x := (nI (encC c))) d_Mod_channel_111 hI (by decide) (by decide) (by show _ < 2000; omega) (by decide) (hR.cp i c hc) ?_
        refine wp_bipush (v := nI 12) d_Mod_channel_112 (by decide) ?_
        refine wp_ishrN d_Mod_channel_114 (by omega) (by omega) ?_
        refine wp_sipush (v := nI 255) d_Mod_channel_115 (by decide) ?_
        refine wp_iandM (c := 8) d_Mod_channel_118 (by omega) (by decide) ?_
        refine wp_toI (z := (nI (c.2.1))) (congrArg nI hcb.2.1) ?_
        refine wm_ild (j := 18) (x := (nI (r.1))) d_Mod_channel_119 hI (by decide) (by decide) (by show _ < 201; omega) (by decide) (hr5) ?_
        refine wp_iload_n d_Mod_channel_120 rfl 4 rfl ?_
        refine wp_neN (tgt := 128) d_Mod_channel_121 (by decide) (by omega) (by omega) (fun c121 => ?_) (fun c121 => ?_)
        · refine wp_iconst (v := nI 0) d_Mod_channel_128 (by decide) ?_
          refine wp_iaddN d_Mod_channel_129 ?_
          refine wp_istore (lv' := [(5, .int (nI (q + 0))), (6, .int (nI i)), (4, .int (nI j)), (0, .ref o), (3, .int (nI p))]) d_Mod_channel_130 (by decide) rfl ?_
          refine wp_iinc (lv' := [(6, .int (nI (i + 1))), (5, .int (nI (q + 0))), (4, .int (nI j)), (0, .ref o), (3, .int (nI p))]) d_Mod_channel_132 1 rfl (nI_1 _) (by decide) rfl ?_
          refine wp_goto (tgt := 75) d_Mod_channel_135 (by decide) ?_
          exact ih (i + 1) (q + 0) (by omega) (by omega) (by rw [cntT hc, hq]; first | (simp [c98, c121, hr8]; done) | (simp [c98]; done))
        · refine wp_iconst (v := nI 1) d_Mod_channel_124 (by decide) ?_
          refine wp_goto (tgt := 129) d_Mod_channel_125 (by decide) ?_
          refine wp_iaddN d_Mod_channel_129 ?_
          refine wp_istore (lv' := [(5, .int (nI (q + 1))), (6, .int (nI i)), (4, .int (nI j)), (0, .ref o), (3, .int (nI p))]) d_Mod_channel_130 (by decide) rfl ?_
          refine wp_iinc (lv' := [(6, .int (nI (i + 1))), (5, .int (nI (q + 1))), (4, .int (nI j)), (0, .ref o), (3, .int (nI p))]) d_Mod_channel_132 1 rfl (nI_1 _) (by decide) rfl ?_
          refine wp_goto (tgt := 75) d_Mod_channel_135 (by decide) ?_
          exact ih (i + 1) (q + 1) (by omega) (by omega) (by rw [cntT hc, hq]; first | (simp [c98, c121, hr8]; done) | (simp [c98]; done))
set_option maxRecDepth 20000 in
theorem c_Mod_channel0 {G : Gt} {o : Nat} {A : Nat → Nat} {Fi : Nat → Int32} {M : Nat → Nat → Int32} {Ml : Nat → Nat → Int64} {s : Sa} (hI : mInj o A) (hL : RLn s (M 6) (M 7) (M 8) (M 9)) {x z w : Int32} (hx : chOK s x z = false) : CallR G m_Mod_channel 3 42 [.ref o, .int x, .int z, .int w] (hM o A Fi M Ml) 0 0 (some (.int (nI 0))) (hM o A (va_up Fi 0 (nI 1)) M Ml) := by
  refine CallS.of (Nat.le_of_ble_eq_true rfl) ?_
  refine wp_aload_n d_Mod_channel_0 rfl 0 rfl ?_
  refine wp_iload_n d_Mod_channel_1 rfl 1 rfl ?_
  refine wp_iload_n d_Mod_channel_2 rfl 2 rfl ?_
  refine wp_callV (r := 0) d_Mod_channel_3 (link_V (as := [.int x, .int z]) (rest := []) (r := (R_Mod, T_Mod, 43)) d_Mod_channel_3 cal_Mod_isChannel wM_Mod_230 rfl hM_o rfl) cal_Mod_isChannel (c_Mod_isChannelF hI hL hx) (Nat.le_of_ble_eq_true rfl) ⟨Nat.le_of_ble_eq_true rfl, Nat.le_of_ble_eq_true rfl⟩ ?_
  refine wp_if_neB (tgt := 11) d_Mod_channel_6 (by decide) (fun c => absurd c (by decide)) (fun _ => ?_)
  refine wp_iconst (v := nI 0) d_Mod_channel_9 (by decide) ?_
  exact wp_iret d_Mod_channel_10 rfl ⟨rfl, rfl⟩
set_option maxRecDepth 20000 in
theorem c_Mod_channel5 {G : Gt} {o : Nat} {A : Nat → Nat} {Fi : Nat → Int32} {M : Nat → Nat → Int32} {Ml : Nat → Nat → Int64} {s : Sa} (hI : mInj o A) (hL : RLn s (M 6) (M 7) (M 8) (M 9)) {l c : Nat} (hl : l < 8) (hc : c < 2) (hx : chOK s (nI l) (nI c) = true) {q : Nat} (hq : M 26 (2 * l + c) = nI q) : CallR G m_Mod_channel 3 42 [.ref o, .int (nI l), .int (nI c), .int (nI 5)] (hM o A Fi M Ml) 0 0 (some (.int (nI q))) (hM o A (va_up Fi 0 (nI 0)) M Ml) := by
  refine CallS.of (Nat.le_of_ble_eq_true rfl) ?_
  refine wp_aload_n d_Mod_channel_0 rfl 0 rfl ?_
  refine wp_iload_n d_Mod_channel_1 rfl 1 rfl ?_
  refine wp_iload_n d_Mod_channel_2 rfl 2 rfl ?_
  refine wp_callV (r := 0) d_Mod_channel_3 (link_V (as := [.int (nI l), .int (nI c)]) (rest := []) (r := (R_Mod, T_Mod, 43)) d_Mod_channel_3 cal_Mod_isChannel wM_Mod_230 rfl hM_o rfl) cal_Mod_isChannel (c_Mod_isChannelT hI hL hx) (Nat.le_of_ble_eq_true rfl) ⟨Nat.le_of_ble_eq_true rfl, Nat.le_of_ble_eq_true rfl⟩ ?_
  refine wp_if_neB (tgt := 11) d_Mod_channel_6 (by decide) (fun _ => ?_) (fun c => absurd c (by decide))
  refine wp_iconst (v := nI 2) d_Mod_channel_11 (by decide) ?_
  refine wp_iload_n d_Mod_channel_12 rfl 1 rfl ?_
  refine wp_imulN d_Mod_channel_13 ?_
  refine wp_iload_n d_Mod_channel_14 rfl 2 rfl ?_
  refine wp_iaddN d_Mod_channel_15 ?_
  refine wp_istore (lv' := [(4, .int (nI ((2 * l) + c))), (0, .ref o), (1, .int (nI l)), (2, .int (nI c)), (3, .int (nI 5))]) d_Mod_channel_16 (by decide) rfl ?_
  refine wp_iconst (v := nI 0) d_Mod_channel_18 (by decide) ?_
  refine wp_istore (lv' := [(5, .int (nI 0)), (4, .int (nI ((2 * l) + c))), (0, .ref o), (1, .int (nI l)), (2, .int (nI c)), (3, .int (nI 5))]) d_Mod_channel_19 (by decide) rfl ?_
  refine wp_iload_n d_Mod_channel_21 rfl 5 rfl ?_
  refine wp_tableIn (tgt := 141) d_Mod_channel_22 (by decide) (by decide) rfl (by decide) ?_
  refine wp_aload_n d_Mod_channel_141 rfl 2 rfl ?_
  refine wm_get d_Mod_channel_142 26 (by decide) wF_Mod_75 rfl ?_
  refine wp_iload d_Mod_channel_145 1 rfl ?_
  refine wm_ild (j := 26) (x := (nI q)) d_Mod_channel_147 hI (by decide) (by decide) (by show _ < 16; omega) (by decide) (hq) ?_
  exact wp_iret d_Mod_channel_148 rfl ⟨rfl, rfl⟩
set_option maxRecDepth 20000 in
theorem c_Mod_channel6 {G : Gt} {o : Nat} {A : Nat → Nat} {Fi : Nat → Int32} {M : Nat → Nat → Int32} {Ml : Nat → Nat → Int64} {s : Sa} (hI : mInj o A) (hL : RLn s (M 6) (M 7) (M 8) (M 9)) {l c : Nat} (hl : l < 8) (hc : c < 2) (hx : chOK s (nI l) (nI c) = true) {q : Nat} (hq : M 28 (2 * l + c) = nI q) : CallR G m_Mod_channel 3 42 [.ref o, .int (nI l), .int (nI c), .int (nI 6)] (hM o A Fi M Ml) 0 0 (some (.int (nI q))) (hM o A (va_up Fi 0 (nI 0)) M Ml) := by
  refine CallS.of (Nat.le_of_ble_eq_true rfl) ?_
  refine wp_aload_n d_Mod_channel_0 rfl 0 rfl ?_
  refine wp_iload_n d_Mod_channel_1 rfl 1 rfl ?_
  refine wp_iload_n d_Mod_channel_2 rfl 2 rfl ?_
  refine wp_callV (r := 0) d_Mod_channel_3 (link_V (as := [.int (nI l), .int (nI c)]) (rest := []) (r := (R_Mod, T_Mod, 43)) d_Mod_channel_3 cal_Mod_isChannel wM_Mod_230 rfl hM_o rfl) cal_Mod_isChannel (c_Mod_isChannelT hI hL hx) (Nat.le_of_ble_eq_true rfl) ⟨Nat.le_of_ble_eq_true rfl, Nat.le_of_ble_eq_true rfl⟩ ?_
  refine wp_if_neB (tgt := 11) d_Mod_channel_6 (by decide) (fun _ => ?_) (fun c => absurd c (by decide))
  refine wp_iconst (v := nI 2) d_Mod_channel_11 (by decide) ?_
  refine wp_iload_n d_Mod_channel_12 rfl 1 rfl ?_
  refine wp_imulN d_Mod_channel_13 ?_
  refine wp_iload_n d_Mod_channel_14 rfl 2 rfl ?_
  refine wp_iaddN d_Mod_channel_15 ?_
  refine wp_istore (lv' := [(4, .int (nI ((2 * l) + c))), (0, .ref o), (1, .int (nI l)), (2, .int (nI c)), (3, .int (nI 6))]) d_Mod_channel_16 (by decide) rfl ?_
  refine wp_iconst (v := nI 0) d_Mod_channel_18 (by decide) ?_
  refine wp_istore (lv' := [(5, .int (nI 0)), (4, .int (nI ((2 * l) + c))), (0, .ref o), (1, .int (nI l)), (2, .int (nI c)), (3, .int (nI 6))]) d_Mod_channel_19 (by decide) rfl ?_
  refine wp_iload_n d_Mod_channel_21 rfl 5 rfl ?_
  refine wp_tableIn (tgt := 149) d_Mod_channel_22 (by decide) (by decide) rfl (by decide) ?_
  refine wp_aload_n d_Mod_channel_149 rfl 2 rfl ?_
  refine wm_get d_Mod_channel_150 28 (by decide) wF_Mod_81 rfl ?_
  refine wp_iload d_Mod_channel_153 1 rfl ?_
  refine wm_ild (j := 28) (x := (nI q)) d_Mod_channel_155 hI (by decide) (by decide) (by show _ < 16; omega) (by decide) (hq) ?_
  exact wp_iret d_Mod_channel_156 rfl ⟨rfl, rfl⟩
set_option maxRecDepth 20000 in
theorem c_Mod_channel7 {G : Gt} {o : Nat} {A : Nat → Nat} {Fi : Nat → Int32} {M : Nat → Nat → Int32} {Ml : Nat → Nat → Int64} {s : Sa} (hI : mInj o A) (hL : RLn s (M 6) (M 7) (M 8) (M 9)) {l c : Nat} (hl : l < 8) (hc : c < 2) (hx : chOK s (nI l) (nI c) = true) {q : Nat} (hq : M 24 (2 * l + c) = nI q) : CallR G m_Mod_channel 3 42 [.ref o, .int (nI l), .int (nI c), .int (nI 7)] (hM o A Fi M Ml) 0 0 (some (.int (nI q))) (hM o A (va_up Fi 0 (nI 0)) M Ml) := by
  refine CallS.of (Nat.le_of_ble_eq_true rfl) ?_
  refine wp_aload_n d_Mod_channel_0 rfl 0 rfl ?_
  refine wp_iload_n d_Mod_channel_1 rfl 1 rfl ?_
  refine wp_iload_n d_Mod_channel_2 rfl 2 rfl ?_
  refine wp_callV (r := 0) d_Mod_channel_3 (link_V (as := [.int (nI l), .int (nI c)]) (rest := []) (r := (R_Mod, T_Mod, 43)) d_Mod_channel_3 cal_Mod_isChannel wM_Mod_230 rfl hM_o rfl) cal_Mod_isChannel (c_Mod_isChannelT hI hL hx) (Nat.le_of_ble_eq_true rfl) ⟨Nat.le_of_ble_eq_true rfl, Nat.le_of_ble_eq_true rfl⟩ ?_
  refine wp_if_neB (tgt := 11) d_Mod_channel_6 (by decide) (fun _ => ?_) (fun c => absurd c (by decide))
  refine wp_iconst (v := nI 2) d_Mod_channel_11 (by decide) ?_
  refine wp_iload_n d_Mod_channel_12 rfl 1 rfl ?_
  refine wp_imulN d_Mod_channel_13 ?_
  refine wp_iload_n d_Mod_channel_14 rfl 2 rfl ?_
  refine wp_iaddN d_Mod_channel_15 ?_
  refine wp_istore (lv' := [(4, .int (nI ((2 * l) + c))), (0, .ref o), (1, .int (nI l)), (2, .int (nI c)), (3, .int (nI 7))]) d_Mod_channel_16 (by decide) rfl ?_
  refine wp_iconst (v := nI 0) d_Mod_channel_18 (by decide) ?_
  refine wp_istore (lv' := [(5, .int (nI 0)), (4, .int (nI ((2 * l) + c))), (0, .ref o), (1, .int (nI l)), (2, .int (nI c)), (3, .int (nI 7))]) d_Mod_channel_19 (by decide) rfl ?_
  refine wp_iload_n d_Mod_channel_21 rfl 5 rfl ?_
  refine wp_tableIn (tgt := 157) d_Mod_channel_22 (by decide) (by decide) rfl (by decide) ?_
  refine wp_aload_n d_Mod_channel_157 rfl 2 rfl ?_
  refine wm_get d_Mod_channel_158 24 (by decide) wF_Mod_69 rfl ?_
  refine wp_iload d_Mod_channel_161 1 rfl ?_
  refine wm_ild (j := 24) (x := (nI q)) d_Mod_channel_163 hI (by decide) (by decide) (by show _ < 16; omega) (by decide) (hq) ?_
  exact wp_iret d_Mod_channel_164 rfl ⟨rfl, rfl⟩
set_option maxRecDepth 20000 in
theorem c_Mod_channel8 {G : Gt} {o : Nat} {A : Nat → Nat} {Fi : Nat → Int32} {M : Nat → Nat → Int32} {Ml : Nat → Nat → Int64} {s : Sa} (hI : mInj o A) (hL : RLn s (M 6) (M 7) (M 8) (M 9)) {l c : Nat} (hl : l < 8) (hc : c < 2) (hx : chOK s (nI l) (nI c) = true) {q : Nat} (hq : M 25 (2 * l + c) = nI q) : CallR G m_Mod_channel 3 42 [.ref o, .int (nI l), .int (nI c), .int (nI 8)] (hM o A Fi M Ml) 0 0 (some (.int (nI q))) (hM o A (va_up Fi 0 (nI 0)) M Ml) := by
  refine CallS.of (Nat.le_of_ble_eq_true rfl) ?_
  refine wp_aload_n d_Mod_channel_0 rfl 0 rfl ?_
  refine wp_iload_n d_Mod_channel_1 rfl 1 rfl ?_
  refine wp_iload_n d_Mod_channel_2 rfl 2 rfl ?_
  refine wp_callV (r := 0) d_Mod_channel_3 (link_V (as := [.int (nI l), .int (nI c)]) (rest := []) (r := (R_Mod, T_Mod, 43)) d_Mod_channel_3 cal_Mod_isChannel wM_Mod_230 rfl hM_o rfl) cal_Mod_isChannel (c_Mod_isChannelT hI hL hx) (Nat.le_of_ble_eq_true rfl) ⟨Nat.le_of_ble_eq_true rfl, Nat.le_of_ble_eq_true rfl⟩ ?_
  refine wp_if_neB (tgt := 11) d_Mod_channel_6 (by decide) (fun _ => ?_) (fun c => absurd c (by decide))
  refine wp_iconst (v := nI 2) d_Mod_channel_11 (by decide) ?_
  refine wp_iload_n d_Mod_channel_12 rfl 1 rfl ?_
  refine wp_imulN d_Mod_channel_13 ?_
  refine wp_iload_n d_Mod_channel_14 rfl 2 rfl ?_
  refine wp_iaddN d_Mod_channel_15 ?_
  refine wp_istore (lv' := [(4, .int (nI ((2 * l) + c))), (0, .ref o), (1, .int (nI l)), (2, .int (nI c)), (3, .int (nI 8))]) d_Mod_channel_16 (by decide) rfl ?_
  refine wp_iconst (v := nI 0) d_Mod_channel_18 (by decide) ?_
  refine wp_istore (lv' := [(5, .int (nI 0)), (4, .int (nI ((2 * l) + c))), (0, .ref o), (1, .int (nI l)), (2, .int (nI c)), (3, .int (nI 8))]) d_Mod_channel_19 (by decide) rfl ?_
  refine wp_iload_n d_Mod_channel_21 rfl 5 rfl ?_
  refine wp_tableIn (tgt := 165) d_Mod_channel_22 (by decide) (by decide) rfl (by decide) ?_
  refine wp_aload_n d_Mod_channel_165 rfl 2 rfl ?_
  refine wm_get d_Mod_channel_166 25 (by decide) wF_Mod_72 rfl ?_
  refine wp_iload d_Mod_channel_169 1 rfl ?_
  refine wm_ild (j := 25) (x := (nI q)) d_Mod_channel_171 hI (by decide) (by decide) (by show _ < 16; omega) (by decide) (hq) ?_
  exact wp_iret d_Mod_channel_172 rfl ⟨rfl, rfl⟩
theorem inZ_out {w : Int32} {lo hi : Nat} (h : inZ w (nI lo) (nI hi) = false) (hl : lo < 2 ^ 31 := by decide) (hh : hi < 2 ^ 31 := by decide) : w.toInt < (lo : Int) ∨ (hi : Int) < w.toInt := by
  unfold inZ at h
  simp only [decide_eq_false_iff_not, Int32.le_iff_toInt_le, nI_toInt hl, nI_toInt hh] at h
  omega
set_option maxRecDepth 20000 in
theorem c_Mod_channelX {G : Gt} {o : Nat} {A : Nat → Nat} {Fi : Nat → Int32} {M : Nat → Nat → Int32} {Ml : Nat → Nat → Int64} {s : Sa} (hI : mInj o A) (hL : RLn s (M 6) (M 7) (M 8) (M 9)) {l c : Nat} (hl : l < 8) (hc : c < 2) (hx : chOK s (nI l) (nI c) = true) {w : Int32} (hw : inZ w (nI 0) (nI 8) = false) : CallR G m_Mod_channel 3 42 [.ref o, .int (nI l), .int (nI c), .int w] (hM o A Fi M Ml) 0 0 (some (.int (nI 0))) (hM o A (va_up (va_up Fi 0 (nI 0)) 0 (nI 1)) M Ml) := by
  refine CallS.of (Nat.le_of_ble_eq_true rfl) ?_
  refine wp_aload_n d_Mod_channel_0 rfl 0 rfl ?_
  refine wp_iload_n d_Mod_channel_1 rfl 1 rfl ?_
  refine wp_iload_n d_Mod_channel_2 rfl 2 rfl ?_
  refine wp_callV (r := 0) d_Mod_channel_3 (link_V (as := [.int (nI l), .int (nI c)]) (rest := []) (r := (R_Mod, T_Mod, 43)) d_Mod_channel_3 cal_Mod_isChannel wM_Mod_230 rfl hM_o rfl) cal_Mod_isChannel (c_Mod_isChannelT hI hL hx) (Nat.le_of_ble_eq_true rfl) ⟨Nat.le_of_ble_eq_true rfl, Nat.le_of_ble_eq_true rfl⟩ ?_
  refine wp_if_neB (tgt := 11) d_Mod_channel_6 (by decide) (fun _ => ?_) (fun c => absurd c (by decide))
  refine wp_iconst (v := nI 2) d_Mod_channel_11 (by decide) ?_
  refine wp_iload_n d_Mod_channel_12 rfl 1 rfl ?_
  refine wp_imulN d_Mod_channel_13 ?_
  refine wp_iload_n d_Mod_channel_14 rfl 2 rfl ?_
  refine wp_iaddN d_Mod_channel_15 ?_
  refine wp_istore (lv' := [(4, .int (nI ((2 * l) + c))), (0, .ref o), (1, .int (nI l)), (2, .int (nI c)), (3, .int w)]) d_Mod_channel_16 (by decide) rfl ?_
  refine wp_iconst (v := nI 0) d_Mod_channel_18 (by decide) ?_
  refine wp_istore (lv' := [(5, .int (nI 0)), (4, .int (nI ((2 * l) + c))), (0, .ref o), (1, .int (nI l)), (2, .int (nI c)), (3, .int w)]) d_Mod_channel_19 (by decide) rfl ?_
  refine wp_iload_n d_Mod_channel_21 rfl 5 rfl ?_
  refine wp_tableOut (tgt := 173) d_Mod_channel_22 (inZ_out hw) (by decide) ?_
  refine wp_aload_n d_Mod_channel_173 rfl 2 rfl ?_
  refine wp_iconst (v := nI 1) d_Mod_channel_174 (by decide) ?_
  refine wp_callV (r := 0) d_Mod_channel_175 (link_V (as := [.int (nI 1)]) (rest := []) (r := (R_Mod, T_Mod, 43)) d_Mod_channel_175 cal_Mod_raise wM_Mod_192 rfl hM_o rfl) cal_Mod_raise (c_Mod_raise (nI 1)) (Nat.le_of_ble_eq_true rfl) ⟨Nat.le_of_ble_eq_true rfl, Nat.le_of_ble_eq_true rfl⟩ ?_
  exact wp_iret d_Mod_channel_178 rfl ⟨rfl, by congr 1⟩
set_option maxRecDepth 20000 in
theorem c_Mod_channel4 {G : Gt} {o : Nat} {A : Nat → Nat} {Fi : Nat → Int32} {M : Nat → Nat → Int32} {Ml : Nat → Nat → Int64} {s : Sa} (hI : mInj o A) {n : Nat} (hV : Inv n s) (hR : RepM s Fi M Ml) {l c p : Nat} (hl : l < 8) (hc : c < 2) (hp : p ≤ 4) (hx : chOK s (nI l) (nI c) = true) : CallR G m_Mod_channel 3 42 [.ref o, .int (nI l), .int (nI c), .int (nI p)] (hM o A Fi M Ml) 0 0 (some (.int (nI ((sCp s).countP fun q => q.1 == 2 * l + c && prioOf s q.2.1 == p)))) (hM o A (va_up Fi 0 (nI 0)) M Ml) := by
  refine CallS.of (Nat.le_of_ble_eq_true rfl) ?_
  refine wp_aload_n d_Mod_channel_0 rfl 0 rfl ?_
  refine wp_iload_n d_Mod_channel_1 rfl 1 rfl ?_
  refine wp_iload_n d_Mod_channel_2 rfl 2 rfl ?_
  refine wp_callV (r := 0) d_Mod_channel_3 (link_V (as := [.int (nI l), .int (nI c)]) (rest := []) (r := (R_Mod, T_Mod, 43)) d_Mod_channel_3 cal_Mod_isChannel wM_Mod_230 rfl hM_o rfl) cal_Mod_isChannel (c_Mod_isChannelT hI hR.ln hx) (Nat.le_of_ble_eq_true rfl) ⟨Nat.le_of_ble_eq_true rfl, Nat.le_of_ble_eq_true rfl⟩ ?_
  refine wp_if_neB (tgt := 11) d_Mod_channel_6 (by decide) (fun _ => ?_) (fun c => absurd c (by decide))
  refine wp_iconst (v := nI 2) d_Mod_channel_11 (by decide) ?_
  refine wp_iload_n d_Mod_channel_12 rfl 1 rfl ?_
  refine wp_imulN d_Mod_channel_13 ?_
  refine wp_iload_n d_Mod_channel_14 rfl 2 rfl ?_
  refine wp_iaddN d_Mod_channel_15 ?_
  refine wp_istore (lv' := [(4, .int (nI ((2 * l) + c))), (0, .ref o), (1, .int (nI l)), (2, .int (nI c)), (3, .int (nI p))]) d_Mod_channel_16 (by decide) rfl ?_
  refine wp_iconst (v := nI 0) d_Mod_channel_18 (by decide) ?_
  refine wp_istore (lv' := [(5, .int (nI 0)), (4, .int (nI ((2 * l) + c))), (0, .ref o), (1, .int (nI l)), (2, .int (nI c)), (3, .int (nI p))]) d_Mod_channel_19 (by decide) rfl ?_
  refine wp_iload_n d_Mod_channel_21 rfl 5 rfl ?_
  refine wp_tableIn (tgt := 72) (off := 50) d_Mod_channel_22 (by rw [nI_toInt (by omega)]; omega) (by rw [nI_toInt (by omega)]; omega) (by rw [nI_toInt (by omega)]; obtain rfl | rfl | rfl | rfl | rfl : p = 0 ∨ p = 1 ∨ p = 2 ∨ p = 3 ∨ p = 4 := (by omega) <;> rfl) (by decide) ?_
  refine wp_iconst (v := nI 0) d_Mod_channel_72 (by decide) ?_
  refine wp_istore (lv' := [(6, .int (nI 0)), (5, .int (nI 0)), (4, .int (nI ((2 * l) + c))), (0, .ref o), (1, .int (nI l)), (2, .int (nI c)), (3, .int (nI p))]) d_Mod_channel_73 (by decide) rfl ?_
  refine wp_lv [0, 1, 2, 3, 6] rfl ?_
  refine l_Mod_channel (Fi := va_up Fi 0 (nI 0)) (j := 2 * l + c) hI hV (show RepM s (va_up Fi 0 (nI 0)) M Ml from hR) (by omega) hp ?_ ((sCp s).length + 1) 0 0 (by omega) (by omega) rfl
  refine wp_iload d_Mod_channel_138 1 rfl ?_
  exact wp_iret d_Mod_channel_140 rfl ⟨rfl, rfl⟩
theorem c_Mod_channel {G : Gt} {o : Nat} {A : Nat → Nat} {Fi : Nat → Int32} {M : Nat → Nat → Int32} {Ml : Nat → Nat → Int64} {s : Sa} {n : Nat} (hI : mInj o A) (hR : RepM s Fi M Ml) (hV : Inv n s) (x z w : Int32) : CallE G m_Mod_channel 3 42 [.ref o, .int x, .int z, .int w] (hM o A Fi M Ml) 0 0 (some (.int (stChannel s x z w).2.1)) (RefOK o A (stChannel s x z w)) := by
  cases hx : chOK s x z with
  | false =>
    rw [show stChannel s x z w = (1, 0, s) by unfold stChannel; rw [hx]; rfl]
    exact CallR.E (c_Mod_channel0 hI hR.ln hx) ⟨_, _, _, rfl, hR, rfl⟩
  | true =>
    obtain ⟨l, c, hl, hc, rfl, rfl, hs⟩ := chOK_of hx
    have e0 : stChannel s (nI l) (nI c) w = if inZ w (nI 0) (nI 4) then (0, nI ((sCp s).countP fun q => q.1 == 2 * l + c && prioOf s q.2.1 == nN w), s) else if w = nI 5 then (0, nI (cKept (sCh s (2 * l + c))), s) else if w = nI 6 then (0, nI (cWire (sCh s (2 * l + c))).length, s) else if w = nI 7 then (0, nI ((cSent (sCh s (2 * l + c))).length + 1), s) else if w = nI 8 then (0, nI (cExp (sCh s (2 * l + c))), s) else (1, 0, s) := by
      unfold stChannel
      rw [if_pos hx, nN_nI (by omega), nN_nI (by omega)]
    rw [e0]
    have hch := hR.ch (2 * l + c) (by omega)
    have hch1 := hch.1 (by rw [show (2 * l + c) / 2 = l by omega]; exact hs)
    cases hw : inZ w (nI 0) (nI 8) with
    | false =>
      have h4 : inZ w (nI 0) (nI 4) = false := by
        cases h4 : inZ w (nI 0) (nI 4) with
        | false => rfl
        | true =>
          obtain ⟨p, _, h, rfl⟩ := inZ_w (by decide) (by decide) h4
          rw [inZ_nI (by omega) (by decide) (by decide)] at hw
          exact absurd hw (by simp; omega)
      have hne : ∀ p, p ≤ 8 → ¬ w = nI p := fun p hp q => by
        rw [q, inZ_nI (by omega) (by decide) (by decide)] at hw
        exact absurd hw (by simp; omega)
      rw [h4, if_neg (by decide), if_neg (hne 5 (by decide)), if_neg (hne 6 (by decide)), if_neg (hne 7 (by decide)), if_neg (hne 8 (by decide))]
      exact CallR.E (CallR.up (c_Mod_channelX hI hR.ln hl hc hx hw) (by decide) (by decide)) ⟨_, _, _, rfl, hR, rfl⟩
    | true =>
      obtain ⟨p, _, hp, rfl⟩ := inZ_w (by decide) (by decide) hw
      by_cases h4 : p ≤ 4
      · rw [inZ_nI (by omega) (by decide) (by decide), if_pos (decide_eq_true (by omega)), nN_nI (by omega)]
        exact CallR.E (CallR.up (c_Mod_channel4 hI hV hR hl hc h4 hx) (by decide) (by decide)) ⟨_, _, _, rfl, hR, rfl⟩
      · obtain rfl | rfl | rfl | rfl : p = 5 ∨ p = 6 ∨ p = 7 ∨ p = 8 := by omega
        · exact CallR.E (CallR.up (c_Mod_channel5 hI hR.ln hl hc hx hch.2.1) (by decide) (by decide)) ⟨_, _, _, rfl, hR, rfl⟩
        · exact CallR.E (CallR.up (c_Mod_channel6 hI hR.ln hl hc hx hch.2.2.2.1) (by decide) (by decide)) ⟨_, _, _, rfl, hR, rfl⟩
        · exact CallR.E (CallR.up (c_Mod_channel7 hI hR.ln hl hc hx hch1.1) (by decide) (by decide)) ⟨_, _, _, rfl, hR, rfl⟩
        · exact CallR.E (CallR.up (c_Mod_channel8 hI hR.ln hl hc hx hch1.2) (by decide) (by decide)) ⟨_, _, _, rfl, hR, rfl⟩
end Mod14
