section Mod29
theorem sub_add9 {a b : Nat} (h : b ≤ a + 999) : nI a - nI b + nI 999 = nI (a + 999 - b) := by
  have e : nI (a + 999 - b) + nI b = nI a + nI 999 := by rw [nI_add, nI_add, show a + 999 - b + b = a + 999 by omega]
  rw [Int32.sub_eq_add_neg, Int32.add_assoc, Int32.add_comm (-nI b) (nI 999), ← Int32.add_assoc, ← e, Int32.add_assoc, Int32.add_right_neg, Int32.add_zero]
theorem RC_exp {d : Ch} {c v : Nat} {M : Nat → Nat → Int32} {b : Bool} (h : RC b d c M) : RC b (wExp d v) c (u2 M 25 c (nI v)) := by
  obtain ⟨h1, h2, h3, h4, h5, h6, h7⟩ := h
  exact ⟨fun hb => ⟨(h1 hb).1, by rw [u2_at, if_pos rfl]; rfl⟩, h2, h3, h4, h5, h6, h7⟩
theorem agr_1 {c j : Nat} {M : Nat → Nat → Int32} {v : Int32} (hj : 24 ≤ j ∧ j ≤ 32) (h1 : j ≠ 27) (h2 : j ≠ 29) : agr c M (u2 M j c v) := agr_u2 hj ⟨fun _ _ => rfl, fun h => absurd h h1, fun h => absurd h h2⟩
theorem RC_ask {d : Ch} {c mi : Nat} {M : Nat → Nat → Int32} {b : Bool} (h : RC b d c M) : RC b (wAsk d (some mi)) c (u2 (u2 M 32 c (nI 1)) 31 c (nI mi)) := by
  obtain ⟨h1, h2, h3, h4, h5, h6, h7⟩ := h
  refine ⟨h1, h2, h3, h4, h5, h6, ?_⟩
  show u2 (u2 M 32 c (nI 1)) 31 c (nI mi) 32 c = bI true ∧ u2 (u2 M 32 c (nI 1)) 31 c (nI mi) 31 c = nI mi
  rw [u2_ne _ _ (show 32 ≠ 31 by decide), u2_at, if_pos rfl, u2_at, if_pos rfl]
  exact ⟨by decide, rfl⟩
theorem encF_1 (sent : List (Nat × Nat)) (se : Nat) : encF sent (1, se) = encK 1 se 0 0 := rfl
theorem encF_2 (sent : List (Nat × Nat)) (se : Nat) : encF sent (2, se) = encK 2 se 0 0 := rfl
theorem endOf_eq {s : Sa} {l a b : Nat} {v f : Bool} (h : sLn s l = some (a, b, v)) : endOf s l f = if f then a else b := by unfold endOf; rw [h]
theorem byI_l (l : Nat) : nI l = byI (l + 1) := by unfold byI; rw [if_neg (by omega)]; rfl
set_option maxRecDepth 20000 in
theorem c_Mod_message {G : Gt} {o : Nat} {A : Nat → Nat} {Fi : Nat → Int32} {M : Nat → Nat → Int32} {Ml : Nat → Nat → Int64} {s : Sa} (hI : mInj o A) {n : Nat} (hR : RepM s Fi M Ml) (hV : Inv n s) {l j k se e : Nat} (hl : l < 8) (hj : j < 16) (hk : k < 16) (hjk : k ≠ j) (hjl : j / 2 = l) (hkl : k / 2 = l) (hsv : serves s l = true) (hse : 1 ≤ se ∧ se ≤ (cSent (sCh s j)).length) (he : e = encK 0 se ((cSent (sCh s j)).getD (se - 1) (0, 0)).1 ((cSent (sCh s j)).getD (se - 1) (0, 0)).2) : CallE G m_Mod_message 2 37 [.ref o, .int (nI l), .int (nI j), .int (nI k), .int (nI e)] (hM o A Fi M Ml) 0 0 (some (.int (nI (meetS s l j k se).1))) (fun h' => ∃ F' M', h' = hM o A F' M' Ml ∧ RepM (meetS s l j k se).2 F' M' Ml ∧ F' 0 = Fi 0) := by
  have hbj := hV.bCh j
  have hbk := hV.bCh k
  have hsj : serves s (j / 2) = true := by rw [hjl]; exact hsv
  have hsk : serves s (k / 2) = true := by rw [hkl]; exact hsv
  have hsomej := serves_isSome hsj
  have hsomek := serves_isSome hsk
  have hchj : RC true (sCh s j) j M := by have := hR.ch j hj; rw [hsomej] at this; exact this
  have hchk : RC true (sCh s k) k M := by have := hR.ch k hk; rw [hsomek] at this; exact this
  have hokj := hV.2.2.1.2.2.2.1 j
  have hwk := hbk.2.2.2.2.2.1
  obtain ⟨a, b, hab⟩ := serves_some hsv
  have hab6 := hV.2.1.2.2.2.1 l a b true hab
  have hL := hR.ln l hl
  have hxm := hokj.2.2.2.1 _ (sent_get hse)
  have hxb := hbj.2.2.2.1 _ (sent_get hse)
  have hex := hbj.2.2.2.2.1
  have hsl := hbj.2.2.1
  have hmin := hV.2.1.1
  have hn := hV.1
  subst he
  have hdec := encK_lt (k := 0) (se := se) (m := ((cSent (sCh s j)).getD (se - 1) (0, 0)).1) (set := ((cSent (sCh s j)).getD (se - 1) (0, 0)).2) (by omega) (by omega) (by omega) (by omega)
  have hd7 : encK 0 se ((cSent (sCh s j)).getD (se - 1) (0, 0)).1 ((cSent (sCh s j)).getD (se - 1) (0, 0)).2 % 2 ^ 7 = ((cSent (sCh s j)).getD (se - 1) (0, 0)).2 := by have := hdec.2.2.2.2; omega
  refine CallS.of (Nat.le_of_ble_eq_true rfl) ?_
  refine wp_iload d_Mod_message_0 4 rfl ?_
  refine wp_bipush (v := nI 16) d_Mod_message_2 (by decide) ?_
  refine wp_ishrN d_Mod_message_4 (by omega) (by omega) ?_
  refine wp_sipush (v := nI 4095) d_Mod_message_5 (by decide) ?_
  refine wp_iandM (c := 12) d_Mod_message_8 (by omega) (by decide) ?_
  refine wp_toI (z := (nI se)) (congrArg nI hdec.2.2.1) ?_
  refine wp_istore (lv' := [(5, .int (nI se)), (0, .ref o), (1, .int (nI l)), (2, .int (nI j)), (3, .int (nI k)), (4, .int (nI (encK 0 se ((cSent (sCh s j)).getD (se - 1) (0, 0)).1 ((cSent (sCh s j)).getD (se - 1) (0, 0)).2)))]) d_Mod_message_9 (by decide) rfl ?_
  refine wp_aload_n d_Mod_message_11 rfl 1 rfl ?_
  refine wm_get d_Mod_message_12 25 (by decide) wF_Mod_72 rfl ?_
  refine wp_iload_n d_Mod_message_15 rfl 3 rfl ?_
  refine wm_ild (j := 25) (x := (nI (cExp (sCh s j)))) d_Mod_message_16 hI (by decide) (by decide) (by show _ < 16; omega) (by decide) ((hchj.1 rfl).2) ?_
  refine wp_istore (lv' := [(6, .int (nI (cExp (sCh s j)))), (5, .int (nI se)), (0, .ref o), (1, .int (nI l)), (2, .int (nI j)), (3, .int (nI k)), (4, .int (nI (encK 0 se ((cSent (sCh s j)).getD (se - 1) (0, 0)).1 ((cSent (sCh s j)).getD (se - 1) (0, 0)).2)))]) d_Mod_message_17 (by decide) rfl ?_
  refine wp_iload d_Mod_message_19 1 rfl ?_
  refine wp_iload d_Mod_message_21 0 rfl ?_
  refine wp_isub d_Mod_message_23 ?_
  refine wp_sipush (v := nI 999) d_Mod_message_24 (by decide) ?_
  refine wp_iadd d_Mod_message_27 ?_
  refine wp_toI (z := (nI (se + 999 - cExp (sCh s j)))) (sub_add9 (by omega)) ?_
  refine wp_sipush (v := nI 999) d_Mod_message_28 (by decide) ?_
  refine wp_iremN d_Mod_message_31 (by omega) (by omega) (by omega) ?_
  refine wp_istore (lv' := [(7, .int (nI ((se + 999 - cExp (sCh s j)) % 999))), (6, .int (nI (cExp (sCh s j)))), (5, .int (nI se)), (0, .ref o), (1, .int (nI l)), (2, .int (nI j)), (3, .int (nI k)), (4, .int (nI (encK 0 se ((cSent (sCh s j)).getD (se - 1) (0, 0)).1 ((cSent (sCh s j)).getD (se - 1) (0, 0)).2)))]) d_Mod_message_32 (by decide) rfl ?_
  refine wp_iload d_Mod_message_34 0 rfl ?_
  refine wp_if_neN (tgt := 102) d_Mod_message_36 (by decide) (by omega) (fun c36 => ?_) (fun c36 => ?_)
  · refine wp_iload d_Mod_message_102 0 rfl ?_
    refine wp_sipush (v := nI 400) d_Mod_message_104 (by decide) ?_
    refine wp_gtN (tgt := 165) d_Mod_message_107 (by decide) (by omega) (by omega) (fun c107 => ?_) (fun c107 => ?_)
    · have hm3 : meetS s l j k se = (3, ch1 s k (layC (sCh s k) (1, (cExp (sCh s j) + 997) % 999 + 1))) := by unfold meetS; simp only [if_neg (show ¬ (se + 999 - cExp (sCh s j)) % 999 = 0 by omega), if_neg (show ¬ (se + 999 - cExp (sCh s j)) % 999 ≤ 400 by omega)]
      have hRc := rep_ch (c := k) (d := layC (sCh s k) (1, (cExp (sCh s j) + 997) % 999 + 1)) hR (chB hV) (agr_lay hbk.2.2.2.2.2.1) (by rw [hsomek]; exact RC_lay hbk.2.2.2.2.2.1 hchk)
      refine wp_aload_n d_Mod_message_165 rfl 3 rfl ?_
      refine wp_iload_n d_Mod_message_166 rfl 6 rfl ?_
      refine wp_iconst (v := nI 1) d_Mod_message_167 (by decide) ?_
      refine wp_iload d_Mod_message_168 1 rfl ?_
      refine wp_sipush (v := nI 997) d_Mod_message_170 (by decide) ?_
      refine wp_iaddN d_Mod_message_173 ?_
      refine wp_sipush (v := nI 999) d_Mod_message_174 (by decide) ?_
      refine wp_iremN d_Mod_message_177 (by omega) (by omega) (by omega) ?_
      refine wp_iconst (v := nI 1) d_Mod_message_178 (by decide) ?_
      refine wp_iaddN d_Mod_message_179 ?_
      refine wp_iconst (v := nI 0) d_Mod_message_180 (by decide) ?_
      refine wp_iconst (v := nI 0) d_Mod_message_181 (by decide) ?_
      refine wp_callU (r := 0) d_Mod_message_182 (link_V (as := [.int (nI k), .int (nI 1), .int (nI ((((cExp (sCh s j)) + 997) % 999) + 1)), .int (nI 0), .int (nI 0)]) (rest := []) (r := (R_Mod, T_Mod, 43)) d_Mod_message_182 cal_Mod_lay wM_Mod_223 rfl hM_o rfl) cal_Mod_lay (c_Mod_lay hI (by omega) hchk.2.2.2.1 (by omega) (by omega) (by omega) (by omega) (by omega)) (Nat.le_of_ble_eq_true rfl) ⟨Nat.le_of_ble_eq_true rfl, Nat.le_of_ble_eq_true rfl⟩ ?_
      refine wp_iconst (v := nI 3) d_Mod_message_185 (by decide) ?_
      exact wp_iret d_Mod_message_186 rfl ⟨by rw [hm3], _, _, rfl, by rw [hm3]; exact hRc, rfl⟩
    · have hm0 : meetS s l j k se = match cAsk (sCh s j) with
        | some t => if sMin s < t + 3 then (2, s) else (2, ch1 (ch1 s j (wAsk (sCh s j) (some (sMin s)))) k (layC (sCh s k) (2, cExp (sCh s j))))
        | none => (2, ch1 (ch1 s j (wAsk (sCh s j) (some (sMin s)))) k (layC (sCh s k) (2, cExp (sCh s j)))) := by
        unfold meetS
        simp only [if_neg (show ¬ (se + 999 - cExp (sCh s j)) % 999 = 0 by omega), if_pos (show (se + 999 - cExp (sCh s j)) % 999 ≤ 400 by omega), ch1_ne hjk]
        rfl
      have hRa := rep_ch (d := wAsk (sCh s j) (some (sMin s))) hR (chB hV) (agr.trans (agr_1 (j := 32) (by decide) (by decide) (by decide)) (agr_1 (j := 31) (by decide) (by decide) (by decide))) (by rw [hsomej]; exact RC_ask (mi := sMin s) hchj)
      have hRb := rep_ch (c := k) (d := layC (sCh s k) (2, cExp (sCh s j))) hRa (fun i => va_bnd (c := j) (d := wAsk (sCh s j) (some (sMin s))) (chB hV) ⟨hbj.1, hbj.2.2.2.2.2.1⟩ i) (agr_lay hbk.2.2.2.2.2.1) (by show RC (sLn s (k / 2)).isSome _ _ _; rw [hsomek]; exact RC_lay hbk.2.2.2.2.2.1 (RC_agr hjk hbk.1 hwk (agr.trans (agr_1 (j := 32) (by decide) (by decide) (by decide)) (agr_1 (j := 31) (by decide) (by decide) (by decide))) hchk))
      have hak := hchj.2.2.2.2.2.2
      cases hask : cAsk (sCh s j) with
      | none =>
        rw [hask] at hak hm0
        refine wp_aload_n d_Mod_message_110 rfl 3 rfl ?_
        refine wm_get d_Mod_message_111 32 (by decide) wF_Mod_93 rfl ?_
        refine wp_iload_n d_Mod_message_114 rfl 5 rfl ?_
        refine wm_zld (j := 32) (x := (bI false)) d_Mod_message_115 hI (by decide) (by decide) (by show _ < 16; omega) (by decide) (hak) ?_
        refine wp_if_eqB (tgt := 136) d_Mod_message_116 (by decide) (fun _ => ?_) (fun c => absurd c (by decide))
        refine wp_aload_n d_Mod_message_136 rfl 3 rfl ?_
        refine wm_get d_Mod_message_137 32 (by decide) wF_Mod_93 rfl ?_
        refine wp_iload_n d_Mod_message_140 rfl 5 rfl ?_
        refine wp_iconst (v := nI 1) d_Mod_message_141 (by decide) ?_
        refine wm_zst (j := 32) (z := nI 1) d_Mod_message_142 hI (by decide) (by decide) (by show _ < 16; omega) (by decide) (by first | rfl | decide | exact narB _) ?_
        refine wp_aload_n d_Mod_message_143 rfl 3 rfl ?_
        refine wm_get d_Mod_message_144 31 (by decide) wF_Mod_90 rfl ?_
        refine wp_iload_n d_Mod_message_147 rfl 5 rfl ?_
        refine wp_aload_n d_Mod_message_148 rfl 3 rfl ?_
        refine wm_get d_Mod_message_149 1 (by decide) wF_Mod_227 rfl ?_
        refine wp_toI (z := (nI (sMin s))) (hR.fi.1) ?_
        refine wm_ist (j := 31) d_Mod_message_152 hI (by decide) (by decide) (by show _ < 16; omega) (by decide) ?_
        refine wp_aload_n d_Mod_message_153 rfl 3 rfl ?_
        refine wp_iload_n d_Mod_message_154 rfl 6 rfl ?_
        refine wp_iconst (v := nI 2) d_Mod_message_155 (by decide) ?_
        refine wp_iload d_Mod_message_156 1 rfl ?_
        refine wp_iconst (v := nI 0) d_Mod_message_158 (by decide) ?_
        refine wp_iconst (v := nI 0) d_Mod_message_159 (by decide) ?_
        refine wp_callU (r := 0) d_Mod_message_160 (link_V (as := [.int (nI k), .int (nI 2), .int (nI (cExp (sCh s j))), .int (nI 0), .int (nI 0)]) (rest := []) (r := (R_Mod, T_Mod, 43)) d_Mod_message_160 cal_Mod_lay wM_Mod_223 rfl hM_o rfl) cal_Mod_lay (c_Mod_lay hI (by omega) hchk.2.2.2.1 (by omega) (by omega) (by omega) (by omega) (by omega)) (Nat.le_of_ble_eq_true rfl) ⟨Nat.le_of_ble_eq_true rfl, Nat.le_of_ble_eq_true rfl⟩ ?_
        refine wp_iconst (v := nI 2) d_Mod_message_163 (by decide) ?_
        exact wp_iret d_Mod_message_164 rfl ⟨by rw [hm0], _, _, rfl, by rw [hm0]; exact hRb, rfl⟩
      | some t =>
        rw [hask] at hak hm0
        have htm := hokj.2.2.2.2.2.2.2.2.2.1 t hask
        simp only at hm0
        refine wp_aload_n d_Mod_message_110 rfl 3 rfl ?_
        refine wm_get d_Mod_message_111 32 (by decide) wF_Mod_93 rfl ?_
        refine wp_iload_n d_Mod_message_114 rfl 5 rfl ?_
        refine wm_zld (j := 32) (x := (bI true)) d_Mod_message_115 hI (by decide) (by decide) (by show _ < 16; omega) (by decide) (hak.1) ?_
        refine wp_if_eqB (tgt := 136) d_Mod_message_116 (by decide) (fun c => absurd c (by decide)) (fun _ => ?_)
        refine wp_aload_n d_Mod_message_119 rfl 3 rfl ?_
        refine wm_get d_Mod_message_120 1 (by decide) wF_Mod_227 rfl ?_
        refine wp_toI (z := (nI (sMin s))) (hR.fi.1) ?_
        refine wp_aload_n d_Mod_message_123 rfl 3 rfl ?_
        refine wm_get d_Mod_message_124 31 (by decide) wF_Mod_90 rfl ?_
        refine wp_iload_n d_Mod_message_127 rfl 5 rfl ?_
        refine wm_ild (j := 31) (x := (nI t)) d_Mod_message_128 hI (by decide) (by decide) (by show _ < 16; omega) (by decide) (hak.2) ?_
        refine wp_isubN d_Mod_message_129 (by omega) ?_
        refine wp_iconst (v := nI 3) d_Mod_message_130 (by decide) ?_
        refine wp_geN (tgt := 136) d_Mod_message_131 (by decide) (by omega) (by omega) (fun c131 => ?_) (fun c131 => ?_)
        · refine wp_aload_n d_Mod_message_136 rfl 3 rfl ?_
          refine wm_get d_Mod_message_137 32 (by decide) wF_Mod_93 rfl ?_
          refine wp_iload_n d_Mod_message_140 rfl 5 rfl ?_
          refine wp_iconst (v := nI 1) d_Mod_message_141 (by decide) ?_
          refine wm_zst (j := 32) (z := nI 1) d_Mod_message_142 hI (by decide) (by decide) (by show _ < 16; omega) (by decide) (by first | rfl | decide | exact narB _) ?_
          refine wp_aload_n d_Mod_message_143 rfl 3 rfl ?_
          refine wm_get d_Mod_message_144 31 (by decide) wF_Mod_90 rfl ?_
          refine wp_iload_n d_Mod_message_147 rfl 5 rfl ?_
          refine wp_aload_n d_Mod_message_148 rfl 3 rfl ?_
          refine wm_get d_Mod_message_149 1 (by decide) wF_Mod_227 rfl ?_
          refine wp_toI (z := (nI (sMin s))) (hR.fi.1) ?_
          refine wm_ist (j := 31) d_Mod_message_152 hI (by decide) (by decide) (by show _ < 16; omega) (by decide) ?_
          refine wp_aload_n d_Mod_message_153 rfl 3 rfl ?_
          refine wp_iload_n d_Mod_message_154 rfl 6 rfl ?_
          refine wp_iconst (v := nI 2) d_Mod_message_155 (by decide) ?_
          refine wp_iload d_Mod_message_156 1 rfl ?_
          refine wp_iconst (v := nI 0) d_Mod_message_158 (by decide) ?_
          refine wp_iconst (v := nI 0) d_Mod_message_159 (by decide) ?_
          refine wp_callU (r := 0) d_Mod_message_160 (link_V (as := [.int (nI k), .int (nI 2), .int (nI (cExp (sCh s j))), .int (nI 0), .int (nI 0)]) (rest := []) (r := (R_Mod, T_Mod, 43)) d_Mod_message_160 cal_Mod_lay wM_Mod_223 rfl hM_o rfl) cal_Mod_lay (c_Mod_lay hI (by omega) hchk.2.2.2.1 (by omega) (by omega) (by omega) (by omega) (by omega)) (Nat.le_of_ble_eq_true rfl) ⟨Nat.le_of_ble_eq_true rfl, Nat.le_of_ble_eq_true rfl⟩ ?_
          refine wp_iconst (v := nI 2) d_Mod_message_163 (by decide) ?_
          exact wp_iret d_Mod_message_164 rfl ⟨by rw [hm0, if_neg (show ¬ sMin s < t + 3 by omega)], _, _, rfl, by rw [hm0, if_neg (show ¬ sMin s < t + 3 by omega)]; exact hRb, rfl⟩
        · refine wp_iconst (v := nI 2) d_Mod_message_134 (by decide) ?_
          exact wp_iret d_Mod_message_135 rfl ⟨by rw [hm0, if_pos (by omega)], _, _, rfl, by rw [hm0, if_pos (by omega)]; exact hR, rfl⟩
  · have ha0 : (se + 999 - cExp (sCh s j)) % 999 = 0 := c36
    have hcV := fun (ee : Nat) (hee : ee < 6) => acc_Inv (by1 := l + 1) hV hj hk hjk hsj hsk hse ha0 hee (by omega)
    have hcB2 := acc_B hV hj hk hjk hsj hsk hse ha0
    have hRa := rep_ch (d := wExp (sCh s j) (cExp (sCh s j) % 999 + 1)) hR (chB hV) (agr_1 (j := 25) (by decide) (by decide) (by decide)) (by rw [hsomej]; exact RC_exp hchj)
    have hRb := rep_ch (c := k) (d := layC (sCh s k) (1, se)) hRa (fun i => va_bnd (c := j) (d := wExp (sCh s j) (cExp (sCh s j) % 999 + 1)) (chB hV) ⟨hbj.1, hbj.2.2.2.2.2.1⟩ i) (agr_lay hbk.2.2.2.2.2.1) (by show RC (sLn s (k / 2)).isSome _ _ _; rw [hsomek]; exact RC_lay hbk.2.2.2.2.2.1 (RC_agr hjk hbk.1 hwk (agr_1 (j := 25) (by decide) (by decide) (by decide)) hchk))
    rw [show ch1 (ch1 s j (wExp (sCh s j) (cExp (sCh s j) % 999 + 1))) k (layC (sCh s k) (1, se)) = accS s j k se by unfold accS; simp only [ch1_ne hjk]] at hRb
    refine wp_aload_n d_Mod_message_39 rfl 3 rfl ?_
    refine wm_get d_Mod_message_40 25 (by decide) wF_Mod_72 rfl ?_
    refine wp_iload_n d_Mod_message_43 rfl 5 rfl ?_
    refine wp_iload d_Mod_message_44 1 rfl ?_
    refine wp_callV (r := 2) d_Mod_message_46 (link_S (av := [.int (nI (cExp (sCh s j)))]) (rest := [.int (nI j), .ref (A 25)]) d_Mod_message_46 cal_Mod_behind wM_Mod_233 rfl) cal_Mod_behind (c_Mod_behind (by omega)) (Nat.le_of_ble_eq_true rfl) ⟨Nat.le_of_ble_eq_true rfl, Nat.le_of_ble_eq_true rfl⟩ ?_
    refine wm_ist (j := 25) d_Mod_message_49 hI (by decide) (by decide) (by show _ < 16; omega) (by decide) ?_
    refine wp_aload_n d_Mod_message_50 rfl 3 rfl ?_
    refine wp_iload_n d_Mod_message_51 rfl 6 rfl ?_
    refine wp_iconst (v := nI 1) d_Mod_message_52 (by decide) ?_
    refine wp_iload d_Mod_message_53 2 rfl ?_
    refine wp_iconst (v := nI 0) d_Mod_message_55 (by decide) ?_
    refine wp_iconst (v := nI 0) d_Mod_message_56 (by decide) ?_
    refine wp_callU (r := 0) d_Mod_message_57 (link_V (as := [.int (nI k), .int (nI 1), .int (nI se), .int (nI 0), .int (nI 0)]) (rest := []) (r := (R_Mod, T_Mod, 43)) d_Mod_message_57 cal_Mod_lay wM_Mod_223 rfl hM_o rfl) cal_Mod_lay (c_Mod_lay hI (by omega) hchk.2.2.2.1 (by omega) (by omega) (by omega) (by omega) (by omega)) (Nat.le_of_ble_eq_true rfl) ⟨Nat.le_of_ble_eq_true rfl, Nat.le_of_ble_eq_true rfl⟩ ?_
    refine wp_aload_n d_Mod_message_60 rfl 3 rfl ?_
    refine wp_iload_n d_Mod_message_61 rfl 5 rfl ?_
    refine wp_iconst (v := nI 2) d_Mod_message_62 (by decide) ?_
    refine wp_iremN d_Mod_message_63 (by omega) (by omega) (by omega) ?_
    refine wp_if_neN (tgt := 76) d_Mod_message_64 (by decide) (by omega) (fun c64 => ?_) (fun c64 => ?_)
    · refine wp_aload_n d_Mod_message_76 rfl 3 rfl ?_
      refine wm_get d_Mod_message_77 7 (by decide) wF_Mod_23 rfl ?_
      refine wp_iload_n d_Mod_message_80 rfl 4 rfl ?_
      refine wm_ild (j := 7) (x := (nI a)) d_Mod_message_81 hI (by decide) (by decide) (by show _ < 8; omega) (by decide) (by rw [layM_ne (by decide) (by decide)]; exact (hL.2.2 a b true hab).1) ?_
      refine wp_iload d_Mod_message_82 7 rfl ?_
      refine wp_bipush (v := nI 8) d_Mod_message_84 (by decide) ?_
      refine wp_ishrN d_Mod_message_86 (by omega) (by omega) ?_
      refine wp_sipush (v := nI 255) d_Mod_message_87 (by decide) ?_
      refine wp_iandM (c := 8) d_Mod_message_90 (by omega) (by decide) ?_
      refine wp_toI (z := (nI (((cSent (sCh s j)).getD (se - 1) (0, 0)).1))) (congrArg nI hdec.2.2.2.1) ?_
      refine wp_iload d_Mod_message_91 7 rfl ?_
      refine wp_bipush (v := nI 127) d_Mod_message_93 (by decide) ?_
      refine wp_iandM (c := 7) d_Mod_message_95 (by omega) (by decide) ?_
      refine wp_toI (z := (nI (((cSent (sCh s j)).getD (se - 1) (0, 0)).2))) (congrArg nI hd7) ?_
      refine wp_iload_n d_Mod_message_96 rfl 4 rfl ?_
      refine wp_toI (z := (byI (l + 1))) (byI_l l) ?_
      have hE : endOf (accS s j k se) l (j % 2 == 1) = a := by rw [endOf_eq (show sLn (accS s j k se) l = some (a, b, true) from hab)]; first | rw [if_pos (beq_iff_eq.mpr (by omega))] | rw [if_neg (by rw [beq_iff_eq]; omega)]
      have hm1 : meetS s l j k se = (1, comesS (accS s j k se) a ((cSent (sCh s j)).getD (se - 1) (0, 0)).1 ((cSent (sCh s j)).getD (se - 1) (0, 0)).2 (l + 1)) := by unfold meetS; simp only [ha0, if_true]; rw [← hE]; rfl
      refine wp_callEU (k' := 0) (n' := 0) (r := 0) d_Mod_message_97 (link_V (as := [.int (nI a), .int (nI (((cSent (sCh s j)).getD (se - 1) (0, 0)).1)), .int (nI (((cSent (sCh s j)).getD (se - 1) (0, 0)).2)), .int (byI (l + 1))]) (rest := []) (r := (R_Mod, T_Mod, 43)) d_Mod_message_97 cal_Mod_comes wM_Mod_198 rfl hM_o rfl) cal_Mod_comes (c_Mod_comes hI hRb hcB2.1.CI (hcB2.1.CS a) (by omega) ⟨hxm.1.1, hxm.1.2.1⟩ (by omega) (by omega) (c_bCp (hcV a (by omega))).1) (Nat.le_of_ble_eq_true rfl) ⟨Nat.le_of_ble_eq_true rfl, Nat.le_of_ble_eq_true rfl⟩ (fun h' q97 => ?_)
      obtain ⟨F2, X2, rfl, hX2, hF2⟩ := q97
      refine wp_iconst (v := nI 1) d_Mod_message_100 (by decide) ?_
      exact wp_iret d_Mod_message_101 rfl ⟨by rw [hm1], F2, X2, rfl, by rw [hm1]; exact hX2, hF2⟩
    · refine wp_aload_n d_Mod_message_67 rfl 3 rfl ?_
      refine wm_get d_Mod_message_68 8 (by decide) wF_Mod_26 rfl ?_
      refine wp_iload_n d_Mod_message_71 rfl 4 rfl ?_
      refine wm_ild (j := 8) (x := (nI b)) d_Mod_message_72 hI (by decide) (by decide) (by show _ < 8; omega) (by decide) (by rw [layM_ne (by decide) (by decide)]; exact (hL.2.2 a b true hab).2) ?_
      refine wp_goto (tgt := 82) d_Mod_message_73 (by decide) ?_
      refine wp_iload d_Mod_message_82 7 rfl ?_
      refine wp_bipush (v := nI 8) d_Mod_message_84 (by decide) ?_
      refine wp_ishrN d_Mod_message_86 (by omega) (by omega) ?_
      refine wp_sipush (v := nI 255) d_Mod_message_87 (by decide) ?_
      refine wp_iandM (c := 8) d_Mod_message_90 (by omega) (by decide) ?_
      refine wp_toI (z := (nI (((cSent (sCh s j)).getD (se - 1) (0, 0)).1))) (congrArg nI hdec.2.2.2.1) ?_
      refine wp_iload d_Mod_message_91 7 rfl ?_
      refine wp_bipush (v := nI 127) d_Mod_message_93 (by decide) ?_
      refine wp_iandM (c := 7) d_Mod_message_95 (by omega) (by decide) ?_
      refine wp_toI (z := (nI (((cSent (sCh s j)).getD (se - 1) (0, 0)).2))) (congrArg nI hd7) ?_
      refine wp_iload_n d_Mod_message_96 rfl 4 rfl ?_
      refine wp_toI (z := (byI (l + 1))) (byI_l l) ?_
      have hE : endOf (accS s j k se) l (j % 2 == 1) = b := by rw [endOf_eq (show sLn (accS s j k se) l = some (a, b, true) from hab)]; first | rw [if_pos (beq_iff_eq.mpr (by omega))] | rw [if_neg (by rw [beq_iff_eq]; omega)]
      have hm1 : meetS s l j k se = (1, comesS (accS s j k se) b ((cSent (sCh s j)).getD (se - 1) (0, 0)).1 ((cSent (sCh s j)).getD (se - 1) (0, 0)).2 (l + 1)) := by unfold meetS; simp only [ha0, if_true]; rw [← hE]; rfl
      refine wp_callEU (k' := 0) (n' := 0) (r := 0) d_Mod_message_97 (link_V (as := [.int (nI b), .int (nI (((cSent (sCh s j)).getD (se - 1) (0, 0)).1)), .int (nI (((cSent (sCh s j)).getD (se - 1) (0, 0)).2)), .int (byI (l + 1))]) (rest := []) (r := (R_Mod, T_Mod, 43)) d_Mod_message_97 cal_Mod_comes wM_Mod_198 rfl hM_o rfl) cal_Mod_comes (c_Mod_comes hI hRb hcB2.1.CI (hcB2.1.CS b) (by omega) ⟨hxm.1.1, hxm.1.2.1⟩ (by omega) (by omega) (c_bCp (hcV b (by omega))).1) (Nat.le_of_ble_eq_true rfl) ⟨Nat.le_of_ble_eq_true rfl, Nat.le_of_ble_eq_true rfl⟩ (fun h' q97 => ?_)
      obtain ⟨F2, X2, rfl, hX2, hF2⟩ := q97
      refine wp_iconst (v := nI 1) d_Mod_message_100 (by decide) ?_
      exact wp_iret d_Mod_message_101 rfl ⟨by rw [hm1], F2, X2, rfl, by rw [hm1]; exact hX2, hF2⟩
end Mod29
