section Mod17
theorem no_serve {s : Sa} {l : Nat} (h : (sLn s l).isSome = false) : serves s l = false := by
  unfold serves
  cases hl : sLn s l with
  | none => rfl
  | some x => rw [hl] at h; cases h
theorem due_no {s : Sa} {c : Nat} (h : serves s (c / 2) = false ∨ cKept (sCh s c) = 0 ∨ sMin s < cPut (sCh s c) + 5) : dueC s c = false := by
  unfold dueC
  rcases h with h | h | h
  · rw [h]; rfl
  · rw [h]; simp
  · rw [decide_eq_false (by omega)]; simp
theorem due_yes {s : Sa} {c : Nat} (h1 : serves s (c / 2) = true) (h2 : 0 < cKept (sCh s c)) (h3 : cPut (sCh s c) + 5 ≤ sMin s) : dueC s c = true := by
  unfold dueC
  rw [h1, decide_eq_true h3]
  simp
  omega
theorem timeCh_self (s : Sa) (c : Nat) : timeCh s c c = sCh s c := by
  unfold timeCh
  rw [if_neg (by omega)]
theorem timeCh_no {s : Sa} {c : Nat} (h : dueC s c = false) : timeCh s (c + 1) = timeCh s c := by
  funext i
  unfold timeCh
  by_cases hi : i = c
  · subst hi
    rw [if_neg (by rw [h]; simp), if_neg (by omega)]
  · by_cases h1 : i < c ∧ dueC s i = true
    · rw [if_pos ⟨by omega, h1.2⟩, if_pos h1]
    · rw [if_neg (fun q => h1 ⟨by omega, q.2⟩), if_neg h1]
theorem timeCh_yes {s : Sa} {c : Nat} (h : dueC s c = true) : wCh s (timeCh s (c + 1)) = ch1 (wCh s (timeCh s c)) c (layKeptC (sCh s c) 0 (sMin s)) := by
  have e : timeCh s (c + 1) = va_up (timeCh s c) c (layKeptC (sCh s c) 0 (sMin s)) := by
    funext i
    unfold timeCh va_up
    by_cases hi : i = c
    · subst hi
      rw [if_pos ⟨by omega, h⟩, if_pos rfl]
    · rw [if_neg hi]
      by_cases h1 : i < c ∧ dueC s i = true
      · rw [if_pos ⟨by omega, h1.2⟩]
        exact (if_pos h1).symm
      · rw [if_neg (fun q => h1 ⟨by omega, q.2⟩)]
        exact (if_neg h1).symm
  rw [e]
  rfl
theorem timeCh_b {s : Sa} (hb : ∀ c, bCh (sCh s c)) (m c : Nat) : bCh (timeCh s m c) := by
  unfold timeCh
  split
  · rename_i h
    refine layKeptC_b (hb c) ?_
    have := h.2
    unfold dueC at this
    simp at this
    omega
  · exact hb c
theorem many_s (s : Sa) (c : Nat) : timeMany s (c + 1) = timeMany s c + if dueC s c then 1 else 0 := by
  unfold timeMany
  rw [List.range_succ, List.filter_append, List.length_append]
  simp [List.filter_cons]
  split <;> rfl
set_option maxRecDepth 20000 in
theorem c_Mod_time0 {G : Gt} {o : Nat} {A : Nat → Nat} {Fi : Nat → Int32} {M : Nat → Nat → Int32} {Ml : Nat → Nat → Int64} {x : Int32} (hx : inZ x (nI 0) (nI 1000) = false) : CallR G m_Mod_time 1 15 [.ref o, .int x] (hM o A Fi M Ml) 0 0 (some (.int (nI 0))) (hM o A (va_up Fi 0 (nI 1)) M Ml) := by
  refine CallS.of (Nat.le_of_ble_eq_true rfl) ?_
  refine wp_aload_n d_Mod_time_0 rfl 0 rfl ?_
  refine wp_iload_n d_Mod_time_1 rfl 1 rfl ?_
  refine wp_iconst (v := nI 0) d_Mod_time_2 (by decide) ?_
  refine wp_sipush (v := nI 1000) d_Mod_time_3 (by decide) ?_
  refine wp_callV (r := 1) d_Mod_time_6 (link_S (av := [.int x, .int (nI 0), .int (nI 1000)]) (rest := [.ref o]) d_Mod_time_6 cal_Mod_in wM_Mod_115 rfl) cal_Mod_in (c_Mod_inF hx) (Nat.le_of_ble_eq_true rfl) ⟨Nat.le_of_ble_eq_true rfl, Nat.le_of_ble_eq_true rfl⟩ ?_
  refine wp_if_eqB (tgt := 16) d_Mod_time_9 (by decide) (fun _ => ?_) (fun c => absurd c (by decide))
  refine wp_iconst (v := nI 1) d_Mod_time_16 (by decide) ?_
  refine wm_put (Fi' := va_up Fi 0 (nI 1)) d_Mod_time_17 0 (by decide) wF_Mod_111 rfl (by decide) rfl ?_
  refine wp_aload_n d_Mod_time_20 rfl 0 rfl ?_
  refine wm_get d_Mod_time_21 0 (by decide) wF_Mod_111 rfl ?_
  refine wp_toI (z := (nI 1)) (rfl) ?_
  refine wp_if_leN (tgt := 29) d_Mod_time_24 (by decide) (by omega) (fun c => absurd c (by decide)) (fun _ => ?_)
  refine wp_iconst (v := nI 0) d_Mod_time_27 (by decide) ?_
  exact wp_iret d_Mod_time_28 rfl ⟨rfl, rfl⟩
set_option maxRecDepth 20000 in
theorem l_Mod_time {G : Gt} {B : Bt} {o : Nat} {A : Nat → Nat} {F : Nat → Int32} {Ml : Nat → Nat → Int64} {s : Sa} (hI : mInj o A) (hb : ∀ c, bCh (sCh s c)) (hput : ∀ c, cPut (sCh s c) ≤ sMin s) (hmin : sMin s < 2 ^ 30) (hB : Bd B = 2 ∧ Bw B = 32) (KK : ∀ X, RepM (wCh s (timeCh s 16)) F X Ml → WP G m_Mod_time B 113 [(3, .int (nI 16)), (2, .int (nI (timeMany s 16))), (0, .ref o)] [] (hM o A F X Ml) 0 0) : ∀ (f c q : Nat) (X : Nat → Nat → Int32), 16 - c < f → c ≤ 16 → q = timeMany s c → RepM (wCh s (timeCh s c)) F X Ml → WP G m_Mod_time B 43 [(3, .int (nI c)), (2, .int (nI q)), (0, .ref o)] [] (hM o A F X Ml) 0 0 := by
  intro f
  induction f with
  | zero =>
    intro c q X h1
    omega
  | succ f ih =>
    intro c q X hf hc hq hX
    have hpc := hput c
    have hbc := hb c
    have hkc := hbc.1
    have hno := @due_no s c
    have hch := hX.ch c
    rw [show sCh (wCh s (timeCh s c)) c = sCh s c from timeCh_self s c] at hch
    refine wp_iload_n d_Mod_time_43 rfl 0 rfl ?_
    refine wp_bipush (v := nI 16) d_Mod_time_44 (by decide) ?_
    refine wp_geN (tgt := 113) d_Mod_time_46 (by decide) (by omega) (by omega) (fun c46 => ?_) (fun c46 => ?_)
    · obtain rfl : c = 16 := by omega
      subst hq
      exact KK X hX
    · refine wp_aload_n d_Mod_time_49 rfl 2 rfl ?_
      refine wm_get d_Mod_time_50 6 (by decide) wF_Mod_19 rfl ?_
      refine wp_iload_n d_Mod_time_53 rfl 0 rfl ?_
      refine wp_iconst (v := nI 2) d_Mod_time_54 (by decide) ?_
      refine wp_idivN d_Mod_time_55 (by omega) (by omega) (by omega) ?_
      refine wm_zld (j := 6) (x := (bI ((sLn s (c / 2)).isSome))) d_Mod_time_56 hI (by decide) (by decide) (by show _ < 8; omega) (by decide) ((hX.ln (c / 2) (by omega)).1) ?_
      refine wp_if_eqB (tgt := 107) d_Mod_time_57 (by decide) (fun c57 => ?_) (fun c57 => ?_)
      · refine wp_iinc (lv' := [(3, .int (nI (c + 1))), (2, .int (nI q)), (0, .ref o)]) d_Mod_time_107 0 rfl (nI_1 _) (by decide) rfl ?_
        refine wp_goto (tgt := 43) d_Mod_time_110 (by decide) ?_
        exact ih (c + 1) q X (by omega) (by omega) (by rw [many_s, hno (by first | exact Or.inl (no_serve c57) | exact Or.inl c68 | exact Or.inr (Or.inl c77) | exact Or.inr (Or.inr (by omega))), hq]; rfl) (by rw [timeCh_no (hno (by first | exact Or.inl (no_serve c57) | exact Or.inl c68 | exact Or.inr (Or.inl c77) | exact Or.inr (Or.inr (by omega))))]; exact hX)
      · refine wp_aload_n d_Mod_time_60 rfl 2 rfl ?_
        refine wm_get d_Mod_time_61 9 (by decide) wF_Mod_29 rfl ?_
        refine wp_iload_n d_Mod_time_64 rfl 0 rfl ?_
        refine wp_iconst (v := nI 2) d_Mod_time_65 (by decide) ?_
        refine wp_idivN d_Mod_time_66 (by omega) (by omega) (by omega) ?_
        refine wm_zld (j := 9) (x := (bI (serves s (c / 2)))) d_Mod_time_67 hI (by decide) (by decide) (by show _ < 8; omega) (by decide) ((hX.ln (c / 2) (by omega)).2.1) ?_
        refine wp_if_eqB (tgt := 107) d_Mod_time_68 (by decide) (fun c68 => ?_) (fun c68 => ?_)
        · refine wp_iinc (lv' := [(3, .int (nI (c + 1))), (2, .int (nI q)), (0, .ref o)]) d_Mod_time_107 0 rfl (nI_1 _) (by decide) rfl ?_
          refine wp_goto (tgt := 43) d_Mod_time_110 (by decide) ?_
          exact ih (c + 1) q X (by omega) (by omega) (by rw [many_s, hno (by first | exact Or.inl (no_serve c57) | exact Or.inl c68 | exact Or.inr (Or.inl c77) | exact Or.inr (Or.inr (by omega))), hq]; rfl) (by rw [timeCh_no (hno (by first | exact Or.inl (no_serve c57) | exact Or.inl c68 | exact Or.inr (Or.inl c77) | exact Or.inr (Or.inr (by omega))))]; exact hX)
        · refine wp_aload_n d_Mod_time_71 rfl 2 rfl ?_
          refine wm_get d_Mod_time_72 26 (by decide) wF_Mod_75 rfl ?_
          refine wp_iload_n d_Mod_time_75 rfl 0 rfl ?_
          refine wm_ild (j := 26) (x := (nI (cKept (sCh s c)))) d_Mod_time_76 hI (by decide) (by decide) (by show _ < 16; omega) (by decide) ((hch (by omega)).2.1) ?_
          refine wp_if_eqN (tgt := 107) d_Mod_time_77 (by decide) (by omega) (fun c77 => ?_) (fun c77 => ?_)
          · refine wp_iinc (lv' := [(3, .int (nI (c + 1))), (2, .int (nI q)), (0, .ref o)]) d_Mod_time_107 0 rfl (nI_1 _) (by decide) rfl ?_
            refine wp_goto (tgt := 43) d_Mod_time_110 (by decide) ?_
            exact ih (c + 1) q X (by omega) (by omega) (by rw [many_s, hno (by first | exact Or.inl (no_serve c57) | exact Or.inl c68 | exact Or.inr (Or.inl c77) | exact Or.inr (Or.inr (by omega))), hq]; rfl) (by rw [timeCh_no (hno (by first | exact Or.inl (no_serve c57) | exact Or.inl c68 | exact Or.inr (Or.inl c77) | exact Or.inr (Or.inr (by omega))))]; exact hX)
          · refine wp_aload_n d_Mod_time_80 rfl 2 rfl ?_
            refine wm_get d_Mod_time_81 1 (by decide) wF_Mod_227 rfl ?_
            refine wp_toI (z := (nI (sMin s))) (hX.fi.1) ?_
            refine wp_aload_n d_Mod_time_84 rfl 2 rfl ?_
            refine wm_get d_Mod_time_85 30 (by decide) wF_Mod_87 rfl ?_
            refine wp_iload_n d_Mod_time_88 rfl 0 rfl ?_
            refine wm_ild (j := 30) (x := (nI (cPut (sCh s c)))) d_Mod_time_89 hI (by decide) (by decide) (by show _ < 16; omega) (by decide) ((hch (by omega)).2.2.2.2.2.1) ?_
            refine wp_isubN d_Mod_time_90 (by omega) ?_
            refine wp_iconst (v := nI 5) d_Mod_time_91 (by decide) ?_
            refine wp_geN (tgt := 98) d_Mod_time_92 (by decide) (by omega) (by omega) (fun c92 => ?_) (fun c92 => ?_)
            · have hXc : RC true (sCh s c) c X := by have := hX.ch c (by omega); rw [show sCh (wCh s (timeCh s c)) c = sCh s c from timeCh_self s c, show (sLn (wCh s (timeCh s c)) (c / 2)).isSome = true from c57] at this; exact this
              refine wp_aload_n d_Mod_time_98 rfl 2 rfl ?_
              refine wp_iload_n d_Mod_time_99 rfl 0 rfl ?_
              refine wp_iconst (v := nI 0) d_Mod_time_100 (by decide) ?_
              refine wp_callU (r := 0) d_Mod_time_101 (link_V (as := [.int (nI c), .int (nI 0)]) (rest := []) (r := (R_Mod, T_Mod, 43)) d_Mod_time_101 cal_Mod_layKept wM_Mod_236 rfl hM_o rfl) cal_Mod_layKept (c_Mod_layKeptS hI (by omega) (hb c) hXc (by omega) hX.fi.1) (Nat.le_of_ble_eq_true rfl) ⟨by rw [hB.1]; decide, by rw [hB.2]; decide⟩ ?_
              refine wp_iinc (lv' := [(2, .int (nI (q + 1))), (3, .int (nI c)), (0, .ref o)]) d_Mod_time_104 1 rfl (nI_1 _) (by decide) rfl ?_
              refine wp_iinc (lv' := [(3, .int (nI (c + 1))), (2, .int (nI (q + 1))), (0, .ref o)]) d_Mod_time_107 1 rfl (nI_1 _) (by decide) rfl ?_
              refine wp_goto (tgt := 43) d_Mod_time_110 (by decide) ?_
              exact ih (c + 1) (q + 1) _ (by omega) (by omega) (by rw [many_s, due_yes c68 c77 (by omega), hq]; rfl) (by rw [timeCh_yes (due_yes c68 c77 (by omega))]; exact rep_ch hX (fun c' => ⟨(timeCh_b hb c c').1, (timeCh_b hb c c').2.2.2.2.2.1⟩) (agr_layK hbc.2.2.2.2.2.1) (by rw [show (sLn (wCh s (timeCh s c)) (c / 2)).isSome = true from c57]; exact RC_layKept hbc.2.2.2.2.2.1 hXc))
            · refine wp_goto (tgt := 107) d_Mod_time_95 (by decide) ?_
              refine wp_iinc (lv' := [(3, .int (nI (c + 1))), (2, .int (nI q)), (0, .ref o)]) d_Mod_time_107 0 rfl (nI_1 _) (by decide) rfl ?_
              refine wp_goto (tgt := 43) d_Mod_time_110 (by decide) ?_
              exact ih (c + 1) q X (by omega) (by omega) (by rw [many_s, hno (by first | exact Or.inl (no_serve c57) | exact Or.inl c68 | exact Or.inr (Or.inl c77) | exact Or.inr (Or.inr (by omega))), hq]; rfl) (by rw [timeCh_no (hno (by first | exact Or.inl (no_serve c57) | exact Or.inl c68 | exact Or.inr (Or.inl c77) | exact Or.inr (Or.inr (by omega))))]; exact hX)
set_option maxRecDepth 20000 in
theorem c_Mod_time1 {G : Gt} {o : Nat} {A : Nat → Nat} {Fi : Nat → Int32} {M : Nat → Nat → Int32} {Ml : Nat → Nat → Int64} {s : Sa} (hI : mInj o A) (hR : RepM s Fi M Ml) (hb : ∀ c, bCh (sCh s c)) (hput : ∀ c, cPut (sCh s c) ≤ sMin s) {t : Nat} (ht : t ≤ 1000) (hmin : sMin s ≤ 512000) : CallE G m_Mod_time 2 32 [.ref o, .int (nI t)] (hM o A Fi M Ml) 0 0 (some (.int (nI (timeMany (wMin s (sMin s + t)) 16)))) (RefOK o A (0, nI (timeMany (wMin s (sMin s + t)) 16), wCh (wMin s (sMin s + t)) (timeCh (wMin s (sMin s + t)) 16))) := by
  refine CallS.of (Nat.le_of_ble_eq_true rfl) ?_
  refine wp_aload_n d_Mod_time_0 rfl 0 rfl ?_
  refine wp_iload_n d_Mod_time_1 rfl 1 rfl ?_
  refine wp_iconst (v := nI 0) d_Mod_time_2 (by decide) ?_
  refine wp_sipush (v := nI 1000) d_Mod_time_3 (by decide) ?_
  refine wp_callV (r := 1) d_Mod_time_6 (link_S (av := [.int (nI t), .int (nI 0), .int (nI 1000)]) (rest := [.ref o]) d_Mod_time_6 cal_Mod_in wM_Mod_115 rfl) cal_Mod_in (c_Mod_inT (by omega) (by omega) (by omega)) (Nat.le_of_ble_eq_true rfl) ⟨Nat.le_of_ble_eq_true rfl, Nat.le_of_ble_eq_true rfl⟩ ?_
  refine wp_if_eqB (tgt := 16) d_Mod_time_9 (by decide) (fun c => absurd c (by decide)) (fun _ => ?_)
  refine wp_iconst (v := nI 0) d_Mod_time_12 (by decide) ?_
  refine wp_goto (tgt := 17) d_Mod_time_13 (by decide) ?_
  refine wm_put (Fi' := va_up Fi 0 (nI 0)) d_Mod_time_17 0 (by decide) wF_Mod_111 rfl (by decide) rfl ?_
  refine wp_aload_n d_Mod_time_20 rfl 0 rfl ?_
  refine wm_get d_Mod_time_21 0 (by decide) wF_Mod_111 rfl ?_
  refine wp_toI (z := (nI 0)) (rfl) ?_
  refine wp_if_leN (tgt := 29) d_Mod_time_24 (by decide) (by omega) (fun _ => ?_) (fun c => absurd c (by decide))
  refine wp_aload_n d_Mod_time_29 rfl 0 rfl ?_
  refine wp_dup d_Mod_time_30 rfl ?_
  refine wm_get d_Mod_time_31 1 (by decide) wF_Mod_227 rfl ?_
  refine wp_toI (z := (nI (sMin s))) (hR.fi.1) ?_
  refine wp_iload_n d_Mod_time_34 rfl 1 rfl ?_
  refine wp_iaddN d_Mod_time_35 ?_
  refine wm_put (Fi' := va_up (va_up Fi 0 (nI 0)) 1 (nI ((sMin s) + t))) d_Mod_time_36 1 (by decide) wF_Mod_227 rfl (by decide) rfl ?_
  refine wp_iconst (v := nI 0) d_Mod_time_39 (by decide) ?_
  refine wp_istore_n (lv' := [(2, .int (nI 0)), (0, .ref o), (1, .int (nI t))]) d_Mod_time_40 rfl (by decide) rfl ?_
  refine wp_iconst (v := nI 0) d_Mod_time_41 (by decide) ?_
  refine wp_istore_n (lv' := [(3, .int (nI 0)), (2, .int (nI 0)), (0, .ref o), (1, .int (nI t))]) d_Mod_time_42 rfl (by decide) rfl ?_
  refine wp_lv [0, 1, 2] rfl ?_
  refine l_Mod_time (s := wMin s (sMin s + t)) hI hb (fun c => Nat.le_trans (hput c) (Nat.le_add_right _ _)) (by show sMin s + t < 2 ^ 30; omega) ⟨rfl, rfl⟩ (fun X hX => ?_) 17 0 0 M (by omega) (by omega) rfl ?_
  · refine wp_iload_n d_Mod_time_113 rfl 1 rfl ?_
    exact wp_iret d_Mod_time_114 rfl ⟨rfl, _, _, _, rfl, hX, rfl⟩
  · have e : timeCh (wMin s (sMin s + t)) 0 = sCh s := by funext i; unfold timeCh; rw [if_neg (by omega)]
    rw [e]
    obtain ⟨r1, r2, r3, r4, r5, r6, r7, r8, r9, r10, r11⟩ := hR
    exact ⟨⟨rfl, r1.2⟩, r2, r3, r4, r5, r6, r7, r8, r9, r10, r11⟩
theorem c_Mod_time {G : Gt} {o : Nat} {A : Nat → Nat} {Fi : Nat → Int32} {M : Nat → Nat → Int32} {Ml : Nat → Nat → Int64} {s : Sa} {n : Nat} (hI : mInj o A) (hR : RepM s Fi M Ml) (hV : Inv n s) (x : Int32) : CallE G m_Mod_time 2 32 [.ref o, .int x] (hM o A Fi M Ml) 0 0 (some (.int (stTime s x).2.1)) (RefOK o A (stTime s x)) := by
  have hmin := hV.2.1.1
  have hn := hV.1
  cases hx : inZ x (nI 0) (nI 1000) with
  | false =>
    rw [show stTime s x = (1, 0, s) by unfold stTime; rw [hx]; rfl]
    exact CallR.E (CallR.up (c_Mod_time0 hx) (by decide) (by decide)) ⟨_, _, _, rfl, hR, rfl⟩
  | true =>
    obtain ⟨t, _, ht, rfl⟩ := inZ_w (by decide) (by decide) hx
    rw [show stTime s (nI t) = (0, nI (timeMany (wMin s (sMin s + t)) 16), wCh (wMin s (sMin s + t)) (timeCh (wMin s (sMin s + t)) 16)) by unfold stTime; rw [if_pos hx, nN_nI (by omega)]]
    exact c_Mod_time1 hI hR hV.bCh (fun c => (hV.2.2.1.2.2.2.1 c).2.2.2.2.2.2.2.2.1) ht (by omega)
end Mod17
