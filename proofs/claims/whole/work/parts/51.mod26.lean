section Mod26
theorem bI_inj {a b : Bool} : bI a = bI b ↔ a = b := by cases a <;> cases b <;> decide
theorem RC_nil {b : Bool} {d : Ch} {c : Nat} {M : Nat → Nat → Int32} (h : RC b d c M) : RC b (wWire d []) c (u2 M 28 c (nI 0)) := by
  obtain ⟨h1, h2, h3, h4, h5, h6, h7⟩ := h
  refine ⟨h1, h2, h3, ?_, fun k f hf => ?_, h6, h7⟩
  · rw [u2_at, if_pos rfl]
    rfl
  · cases hf
theorem agr_28 {c : Nat} {M : Nat → Nat → Int32} {v : Int32} : agr c M (u2 M 28 c v) := agr_u2 (j := 28) (by decide) ⟨fun _ _ => rfl, fun h => absurd h (by decide), fun h => absurd h (by decide)⟩
theorem rep_srv {s : Sa} {Fi : Nat → Int32} {M : Nat → Nat → Int32} {Ml : Nat → Nat → Int64} (hR : RepM s Fi M Ml) {l a b : Nat} {w v : Bool} (hl : sLn s l = some (a, b, w)) : RepM (wLn s (va_up (sLn s) l (some (a, b, v)))) Fi (u2 M 9 l (bI v)) Ml := by
  obtain ⟨r1, r2, r3, r4, r5, r6, r7, r8, r9, r10, r11⟩ := hR
  have hsome : ∀ i, (va_up (sLn s) l (some (a, b, v)) i).isSome = (sLn s i).isSome := by
    intro i
    unfold va_up
    by_cases hi : i = l
    · rw [if_pos hi, hi, hl]
      rfl
    · rw [if_neg hi]
  refine ⟨r1, r2, fun i hi => ?_, r4, r5, r6, r7, fun c hc => ?_, r9, r10, r11⟩
  · have h6 := r3 i hi
    refine ⟨?_, ?_, fun a1 b1 v1 q => ?_⟩
    · show M 6 i = bI (va_up (sLn s) l (some (a, b, v)) i).isSome
      rw [hsome]
      exact h6.1
    · rw [serves_wLn]
      show upd (M 9) l (bI v) i = _
      by_cases hil : i = l
      · subst hil
        simp only [upd, va_up, if_true]
        cases v <;> rfl
      · simp only [upd, va_up, hil, if_false]
        exact h6.2.1
    · have q2 : va_up (sLn s) l (some (a, b, v)) i = some (a1, b1, v1) := q
      by_cases hil : i = l
      · subst hil
        simp [va_up] at q2
        have := h6.2.2 a b w hl
        rw [← q2.1, ← q2.2.1]
        exact this
      · simp [va_up, hil] at q2
        exact h6.2.2 a1 b1 v1 q2
  · have h8 := r8 c hc
    show RC1 (va_up (sLn s) l (some (a, b, v)) (c / 2)).isSome (sCh s c) c _ _ _ _ _ _ _ _ _
    rw [hsome]
    exact h8
/-- a line in or out of service, its wires empty -/
def srv1 (s : Sa) (l : Nat) (v : Bool) (a b : Nat) : Sa := ch1 (ch1 (wLn s (va_up (sLn s) l (some (a, b, v)))) (2 * l) (wWire (sCh s (2 * l)) [])) (2 * l + 1) (wWire (sCh s (2 * l + 1)) [])
theorem srv1_ch (s : Sa) (l : Nat) (v : Bool) (a b c : Nat) : sCh (srv1 s l v a b) c = if c / 2 = l then wWire (sCh s c) [] else sCh s c := by
  show va_up (va_up (sCh s) (2 * l) (wWire (sCh s (2 * l)) [])) (2 * l + 1) (wWire (sCh s (2 * l + 1)) []) c = _
  unfold va_up
  by_cases h : c / 2 = l
  · rw [if_pos h]
    by_cases h1 : c = 2 * l + 1
    · rw [if_pos h1, h1]
    · rw [if_neg h1, if_pos (by omega), show c = 2 * l by omega]
  · rw [if_neg h, if_neg (by omega), if_neg (by omega)]
theorem srv1_rep {n : Nat} {s : Sa} {Fi : Nat → Int32} {M : Nat → Nat → Int32} {Ml : Nat → Nat → Int64} (hV : Inv n s) (hR : RepM s Fi M Ml) {l a b : Nat} {w v : Bool} (hl8 : l < 8) (hl : sLn s l = some (a, b, w)) : RepM (srv1 s l v a b) Fi (u2 (u2 (u2 M 9 l (bI v)) 28 (2 * l) (nI 0)) 28 (2 * l + 1) (nI 0)) Ml := by
  have h1 := rep_srv (v := v) hR hl
  have hch := h1.ch
  have h2 := rep_ch (c := 2 * l) (d := wWire (sCh s (2 * l)) []) h1 (fun c => chB hV c) agr_28 (RC_nil (hch (2 * l) (by omega)))
  refine rep_ch (c := 2 * l + 1) (d := wWire (sCh s (2 * l + 1)) []) h2 (fun c => ?_) agr_28 ?_
  · have := chB hV c
    show cKept (va_up (sCh s) (2 * l) (wWire (sCh s (2 * l)) []) c) ≤ 20 ∧ (cWire (va_up (sCh s) (2 * l) (wWire (sCh s (2 * l)) []) c)).length ≤ 200
    unfold va_up
    by_cases hc : c = 2 * l
    · rw [if_pos hc]
      exact ⟨(chB hV (2 * l)).1, Nat.zero_le _⟩
    · rw [if_neg hc]
      exact this
  · have h3 := h2.ch (2 * l + 1) (by omega)
    have e : sCh (ch1 (wLn s (va_up (sLn s) l (some (a, b, v)))) (2 * l) (wWire (sCh s (2 * l)) [])) (2 * l + 1) = sCh s (2 * l + 1) := by
      show va_up (sCh s) (2 * l) _ (2 * l + 1) = _
      unfold va_up
      rw [if_neg (by omega)]
    rw [e] at h3
    exact RC_nil h3
theorem srv1_Inv {n : Nat} {s : Sa} {l a b : Nat} {w v : Bool} (hV : Inv n s) (hl8 : l < 8) (hl : sLn s l = some (a, b, w)) : Inv n (srv1 s l v a b) := by
  obtain ⟨hn, ⟨k1, k2, k3, k4, k5, k6, k7, k8⟩, ⟨i1, i2, i3, i4, i5⟩, hp⟩ := hV
  have hLn : ∀ i, sLn (srv1 s l v a b) i = if i = l then some (a, b, v) else sLn s i := fun i => rfl
  have hat : ∀ i x, atSw (srv1 s l v a b) i x = atSw s i x := by
    intro i x
    unfold atSw
    rw [hLn]
    by_cases hi : i = l
    · rw [if_pos hi, hi, hl]
    · rw [if_neg hi]
  have hsome : ∀ i, (sLn (srv1 s l v a b) i).isSome = (sLn s i).isSome := by
    intro i
    rw [hLn]
    by_cases hi : i = l
    · rw [if_pos hi, hi, hl]
      rfl
    · rw [if_neg hi]
  have hdeg : ∀ x, degree (srv1 s l v a b) x = degree s x := by
    intro x
    unfold degree
    simp only [hat]
  refine ⟨hn, ⟨k1, k2, k3, fun i a1 b1 v1 q => ?_, fun x => by rw [hdeg]; exact k5 x, fun x => ⟨(k6 x).1, fun e he => ?_⟩, k7, k8⟩, ⟨i1, i2, fun c hc => ?_, fun c => ?_, i5⟩, ?_⟩
  · rw [hLn] at q
    by_cases hi : i = l
    · rw [if_pos hi] at q
      cases q
      have := k4 l a b w hl
      rw [hi]
      exact this
    · rw [if_neg hi] at q
      exact k4 i a1 b1 v1 q
  · have := (k6 x).2 e he
    unfold okRt at this ⊢
    simp only [hat]
    exact this
  · obtain ⟨q1, q2, q3, q4, q5⟩ := i3 c hc
    exact ⟨q1, by rw [hsome]; exact q2, q3, q4, q5⟩
  · rw [srv1_ch]
    obtain ⟨q1, q2, q3, q4, q5, q6, q7, q8, q9, q10, q11, q12⟩ := i4 c
    by_cases hc : c / 2 = l
    · rw [if_pos hc]
      exact ⟨q1, q2, q3, q4, q5, q6, Nat.zero_le _, fun f hf => (by cases hf), q9, q10, fun _ => rfl, fun q => (by rw [hLn, if_pos hc] at q; cases q)⟩
    · rw [if_neg hc]
      refine ⟨q1, q2, q3, q4, q5, q6, q7, q8, q9, q10, fun q => q11 ?_, fun q => q12 ?_⟩
      · unfold serves at q ⊢
        rw [hLn, if_neg hc] at q
        exact q
      · rw [hLn, if_neg hc] at q
        exact q
  · show phi (srv1 s l v a b) ≤ 7 * (sMs s).length
    have e : sumN 16 (fun c => phi1 (sCh (srv1 s l v a b) c)) = sumN 16 (fun c => phi1 (sCh s c)) := sumN_congr (fun c _ => by
      simp only [srv1_ch]
      split <;> rfl)
    unfold phi at hp ⊢
    rw [e]
    exact hp
theorem c_Mod_hasLineH {G : Gt} {o : Nat} {A : Nat → Nat} {Fi : Nat → Int32} {M : Nat → Nat → Int32} {Ml : Nat → Nat → Int64} {s : Sa} (hI : mInj o A) (hL : RLn s (M 6) (M 7) (M 8) (M 9)) {x : Int32} {b : Bool} (h : hasB (lnB s) x = b) : CallR G m_Mod_hasLine 1 14 [.ref o, .int x] (hM o A Fi M Ml) 0 0 (some (.int (bI b))) (hM o A Fi M Ml) :=
  CallR.eq (c_Mod_hasLineG (L := lnB s) hI (fun j hj => (hL j hj).1) x) (by rw [h]) rfl
set_option maxRecDepth 20000 in
theorem c_Mod_serve0 {G : Gt} {o : Nat} {A : Nat → Nat} {Fi : Nat → Int32} {M : Nat → Nat → Int32} {Ml : Nat → Nat → Int64} {s : Sa} (hI : mInj o A) (hL : RLn s (M 6) (M 7) (M 8) (M 9)) {x : Int32} {v : Bool} (hx : hasB (lnB s) x = false) : CallR G m_Mod_serve 2 28 [.ref o, .int x, .int (bI v)] (hM o A Fi M Ml) 0 0 (some (.int (bI false))) (hM o A (va_up Fi 0 (nI 1)) M Ml) := by
  refine CallS.of (Nat.le_of_ble_eq_true rfl) ?_
  refine wp_aload_n d_Mod_serve_0 rfl 0 rfl ?_
  refine wp_aload_n d_Mod_serve_1 rfl 0 rfl ?_
  refine wp_iload_n d_Mod_serve_2 rfl 1 rfl ?_
  refine wp_callV (r := 1) d_Mod_serve_3 (link_V (as := [.int x]) (rest := [.ref o]) (r := (R_Mod, T_Mod, 43)) d_Mod_serve_3 cal_Mod_hasLine wM_Mod_119 rfl hM_o rfl) cal_Mod_hasLine (c_Mod_hasLineH hI hL hx) (Nat.le_of_ble_eq_true rfl) ⟨Nat.le_of_ble_eq_true rfl, Nat.le_of_ble_eq_true rfl⟩ ?_
  refine wp_if_eqB (tgt := 13) d_Mod_serve_6 (by decide) (fun _ => ?_) (fun c => absurd c (by decide))
  refine wp_iconst (v := nI 1) d_Mod_serve_13 (by decide) ?_
  refine wm_put (Fi' := va_up Fi 0 (nI 1)) d_Mod_serve_14 0 (by decide) wF_Mod_111 rfl (by decide) rfl ?_
  refine wp_aload_n d_Mod_serve_17 rfl 0 rfl ?_
  refine wm_get d_Mod_serve_18 0 (by decide) wF_Mod_111 rfl ?_
  refine wp_toI (z := (nI 1)) (rfl) ?_
  refine wp_if_gtN (tgt := 34) d_Mod_serve_21 (by decide) (by omega) (fun _ => ?_) (fun c => absurd c (by decide))
  refine wp_iconst (v := nI 0) d_Mod_serve_34 (by decide) ?_
  exact wp_zret (ty := .boolean) d_Mod_serve_35 rfl rfl ⟨resI (bI_zero (rfl)), rfl⟩
set_option maxRecDepth 20000 in
theorem c_Mod_serve1 {G : Gt} {o : Nat} {A : Nat → Nat} {Fi : Nat → Int32} {M : Nat → Nat → Int32} {Ml : Nat → Nat → Int64} {s : Sa} (hI : mInj o A) (hL : RLn s (M 6) (M 7) (M 8) (M 9)) {l : Nat} {v : Bool} (hl : l < 8) (hx : hasB (lnB s) (nI l) = true) (hw : serves s l = v) : CallR G m_Mod_serve 2 28 [.ref o, .int (nI l), .int (bI v)] (hM o A Fi M Ml) 0 0 (some (.int (bI false))) (hM o A (va_up Fi 0 (nI 0)) M Ml) := by
  refine CallS.of (Nat.le_of_ble_eq_true rfl) ?_
  refine wp_aload_n d_Mod_serve_0 rfl 0 rfl ?_
  refine wp_aload_n d_Mod_serve_1 rfl 0 rfl ?_
  refine wp_iload_n d_Mod_serve_2 rfl 1 rfl ?_
  refine wp_callV (r := 1) d_Mod_serve_3 (link_V (as := [.int (nI l)]) (rest := [.ref o]) (r := (R_Mod, T_Mod, 43)) d_Mod_serve_3 cal_Mod_hasLine wM_Mod_119 rfl hM_o rfl) cal_Mod_hasLine (c_Mod_hasLineH hI hL hx) (Nat.le_of_ble_eq_true rfl) ⟨Nat.le_of_ble_eq_true rfl, Nat.le_of_ble_eq_true rfl⟩ ?_
  refine wp_if_eqB (tgt := 13) d_Mod_serve_6 (by decide) (fun c => absurd c (by decide)) (fun _ => ?_)
  refine wp_iconst (v := nI 0) d_Mod_serve_9 (by decide) ?_
  refine wp_goto (tgt := 14) d_Mod_serve_10 (by decide) ?_
  refine wm_put (Fi' := va_up Fi 0 (nI 0)) d_Mod_serve_14 0 (by decide) wF_Mod_111 rfl (by decide) rfl ?_
  refine wp_aload_n d_Mod_serve_17 rfl 0 rfl ?_
  refine wm_get d_Mod_serve_18 0 (by decide) wF_Mod_111 rfl ?_
  refine wp_toI (z := (nI 0)) (rfl) ?_
  refine wp_if_gtN (tgt := 34) d_Mod_serve_21 (by decide) (by omega) (fun c => absurd c (by decide)) (fun _ => ?_)
  refine wp_aload_n d_Mod_serve_24 rfl 0 rfl ?_
  refine wm_get d_Mod_serve_25 9 (by decide) wF_Mod_29 rfl ?_
  refine wp_iload_n d_Mod_serve_28 rfl 1 rfl ?_
  refine wm_zld (j := 9) (x := (bI (serves s l))) d_Mod_serve_29 hI (by decide) (by decide) (by show _ < 8; omega) (by decide) ((hL l hl).2.1) ?_
  refine wp_iload_n d_Mod_serve_30 rfl 2 rfl ?_
  refine wp_icmp_ne (tgt := 36) d_Mod_serve_31 (by decide) (fun c31 => ?_) (fun c31 => ?_)
  · exact absurd (by rw [hw]) c31
  · refine wp_iconst (v := nI 0) d_Mod_serve_34 (by decide) ?_
    exact wp_zret (ty := .boolean) d_Mod_serve_35 rfl rfl ⟨resI (bI_zero (rfl)), rfl⟩
set_option maxRecDepth 20000 in
theorem c_Mod_serve2 {G : Gt} {o : Nat} {A : Nat → Nat} {Fi : Nat → Int32} {M : Nat → Nat → Int32} {Ml : Nat → Nat → Int64} {s : Sa} (hI : mInj o A) {n : Nat} (hR : RepM s Fi M Ml) (hV : Inv n s) {l a b : Nat} {v w : Bool} (hl : l < 8) (hx : hasB (lnB s) (nI l) = true) (hln : sLn s l = some (a, b, w)) (hw : ¬ serves s l = v) : CallE G m_Mod_serve 3 54 [.ref o, .int (nI l), .int (bI v)] (hM o A Fi M Ml) 0 0 (some (.int 1)) (RefOK o A (0, 1, serveS s l v a b)) := by
  have hL := hR.ln
  have ha6 := (hV.2.1.2.2.2.1 l a b w hln).2.1
  have hb6 := (hV.2.1.2.2.2.1 l a b w hln).2.2.1
  have hVs := srv1_Inv (v := v) hV hl hln
  refine CallS.of (Nat.le_of_ble_eq_true rfl) ?_
  refine wp_aload_n d_Mod_serve_0 rfl 0 rfl ?_
  refine wp_aload_n d_Mod_serve_1 rfl 0 rfl ?_
  refine wp_iload_n d_Mod_serve_2 rfl 1 rfl ?_
  refine wp_callV (r := 1) d_Mod_serve_3 (link_V (as := [.int (nI l)]) (rest := [.ref o]) (r := (R_Mod, T_Mod, 43)) d_Mod_serve_3 cal_Mod_hasLine wM_Mod_119 rfl hM_o rfl) cal_Mod_hasLine (c_Mod_hasLineH hI hL hx) (Nat.le_of_ble_eq_true rfl) ⟨Nat.le_of_ble_eq_true rfl, Nat.le_of_ble_eq_true rfl⟩ ?_
  refine wp_if_eqB (tgt := 13) d_Mod_serve_6 (by decide) (fun c => absurd c (by decide)) (fun _ => ?_)
  refine wp_iconst (v := nI 0) d_Mod_serve_9 (by decide) ?_
  refine wp_goto (tgt := 14) d_Mod_serve_10 (by decide) ?_
  refine wm_put (Fi' := va_up Fi 0 (nI 0)) d_Mod_serve_14 0 (by decide) wF_Mod_111 rfl (by decide) rfl ?_
  refine wp_aload_n d_Mod_serve_17 rfl 0 rfl ?_
  refine wm_get d_Mod_serve_18 0 (by decide) wF_Mod_111 rfl ?_
  refine wp_toI (z := (nI 0)) (rfl) ?_
  refine wp_if_gtN (tgt := 34) d_Mod_serve_21 (by decide) (by omega) (fun c => absurd c (by decide)) (fun _ => ?_)
  refine wp_aload_n d_Mod_serve_24 rfl 0 rfl ?_
  refine wm_get d_Mod_serve_25 9 (by decide) wF_Mod_29 rfl ?_
  refine wp_iload_n d_Mod_serve_28 rfl 1 rfl ?_
  refine wm_zld (j := 9) (x := (bI (serves s l))) d_Mod_serve_29 hI (by decide) (by decide) (by show _ < 8; omega) (by decide) ((hL l hl).2.1) ?_
  refine wp_iload_n d_Mod_serve_30 rfl 2 rfl ?_
  refine wp_icmp_ne (tgt := 36) d_Mod_serve_31 (by decide) (fun c31 => ?_) (fun c31 => ?_)
  · refine wp_aload_n d_Mod_serve_36 rfl 0 rfl ?_
    refine wm_get d_Mod_serve_37 9 (by decide) wF_Mod_29 rfl ?_
    refine wp_iload_n d_Mod_serve_40 rfl 1 rfl ?_
    refine wp_iload_n d_Mod_serve_41 rfl 2 rfl ?_
    refine wm_zst (j := 9) (z := bI v) d_Mod_serve_42 hI (by decide) (by decide) (by show _ < 8; omega) (by decide) (by first | rfl | decide | exact narB _) ?_
    refine wp_aload_n d_Mod_serve_43 rfl 0 rfl ?_
    refine wm_get d_Mod_serve_44 28 (by decide) wF_Mod_81 rfl ?_
    refine wp_iconst (v := nI 2) d_Mod_serve_47 (by decide) ?_
    refine wp_iload_n d_Mod_serve_48 rfl 1 rfl ?_
    refine wp_imulN d_Mod_serve_49 ?_
    refine wp_iconst (v := nI 0) d_Mod_serve_50 (by decide) ?_
    refine wm_ist (j := 28) d_Mod_serve_51 hI (by decide) (by decide) (by show _ < 16; omega) (by decide) ?_
    refine wp_aload_n d_Mod_serve_52 rfl 0 rfl ?_
    refine wm_get d_Mod_serve_53 28 (by decide) wF_Mod_81 rfl ?_
    refine wp_iconst (v := nI 2) d_Mod_serve_56 (by decide) ?_
    refine wp_iload_n d_Mod_serve_57 rfl 1 rfl ?_
    refine wp_imulN d_Mod_serve_58 ?_
    refine wp_iconst (v := nI 1) d_Mod_serve_59 (by decide) ?_
    refine wp_iaddN d_Mod_serve_60 ?_
    refine wp_iconst (v := nI 0) d_Mod_serve_61 (by decide) ?_
    refine wm_ist (j := 28) d_Mod_serve_62 hI (by decide) (by decide) (by show _ < 16; omega) (by decide) ?_
    have hRs : RepM (srv1 s l v a b) (va_up Fi 0 (nI 0)) (u2 (u2 (u2 M 9 l (bI v)) 28 (2 * l) (nI 0)) 28 (2 * l + 1) (nI 0)) Ml := srv1_rep hV (show RepM s (va_up Fi 0 (nI 0)) M Ml from hR) hl hln
    refine wp_iload_n d_Mod_serve_63 rfl 2 rfl ?_
    refine wp_if_eqB (tgt := 87) d_Mod_serve_64 (by decide) (fun c64 => ?_) (fun c64 => ?_)
    · refine wp_iconst (v := nI 1) d_Mod_serve_87 (by decide) ?_
      exact wp_zret (ty := .boolean) d_Mod_serve_88 rfl rfl ⟨resI (by decide), _, _, Ml, rfl, by show RepM (serveS s l v a b) _ _ Ml; rw [show serveS s l v a b = srv1 s l v a b by unfold serveS; rw [if_neg (by rw [c64]; decide)]; rfl]; exact hRs, rfl⟩
    · refine wp_aload_n d_Mod_serve_67 rfl 0 rfl ?_
      refine wp_aload_n d_Mod_serve_68 rfl 0 rfl ?_
      refine wm_get d_Mod_serve_69 7 (by decide) wF_Mod_23 rfl ?_
      refine wp_iload_n d_Mod_serve_72 rfl 1 rfl ?_
      refine wm_ild (j := 7) (x := (nI a)) d_Mod_serve_73 hI (by decide) (by decide) (by show _ < 8; omega) (by decide) (by rw [u2_ne _ _ (by decide), u2_ne _ _ (by decide), u2_ne _ _ (by decide)]; exact ((hL l hl).2.2 a b w hln).1) ?_
      refine wp_callEU (k' := 0) (n' := 0) (r := 0) d_Mod_serve_74 (link_V (as := [.int (nI a)]) (rest := []) (r := (R_Mod, T_Mod, 43)) d_Mod_serve_74 cal_Mod_release wM_Mod_254 rfl hM_o rfl) cal_Mod_release (c_Mod_release hI hRs hVs (x := a) ha6) (Nat.le_of_ble_eq_true rfl) ⟨Nat.le_of_ble_eq_true rfl, Nat.le_of_ble_eq_true rfl⟩ (fun h' q74 => ?_)
      obtain ⟨F1, X1, rfl, hX1, hF1⟩ := q74
      have hV1 := releaseN_Inv ha6 ((sCp (srv1 s l v a b)).countP fun c => c.1 == 16 + a) hVs
      have hS1 := releaseN_same ha6 ((sCp (srv1 s l v a b)).countP fun c => c.1 == 16 + a) hVs
      have hb1 : X1 8 l = nI b := ((hX1.ln l hl).2.2 a b v (by rw [show sLn (releaseS (srv1 s l v a b) a) = sLn (srv1 s l v a b) from hS1.1]; show va_up (sLn s) l _ l = _; simp [va_up])).2
      refine wp_aload_n d_Mod_serve_77 rfl 0 rfl ?_
      refine wp_aload_n d_Mod_serve_78 rfl 0 rfl ?_
      refine wm_get d_Mod_serve_79 8 (by decide) wF_Mod_26 rfl ?_
      refine wp_iload_n d_Mod_serve_82 rfl 1 rfl ?_
      refine wm_ild (j := 8) (x := (nI b)) d_Mod_serve_83 hI (by decide) (by decide) (by show _ < 8; omega) (by decide) (hb1) ?_
      refine wp_callEU (k' := 0) (n' := 0) (r := 0) d_Mod_serve_84 (link_V (as := [.int (nI b)]) (rest := []) (r := (R_Mod, T_Mod, 43)) d_Mod_serve_84 cal_Mod_release wM_Mod_254 rfl hM_o rfl) cal_Mod_release (c_Mod_release hI hX1 hV1 (x := b) hb6) (Nat.le_of_ble_eq_true rfl) ⟨Nat.le_of_ble_eq_true rfl, Nat.le_of_ble_eq_true rfl⟩ (fun h' q84 => ?_)
      obtain ⟨F2, X2, rfl, hX2, hF2⟩ := q84
      refine wp_iconst (v := nI 1) d_Mod_serve_87 (by decide) ?_
      exact wp_zret (ty := .boolean) d_Mod_serve_88 rfl rfl ⟨resI (by decide), F2, X2, Ml, rfl, by show RepM (serveS s l v a b) F2 X2 Ml; rw [show serveS s l v a b = releaseS (releaseS (srv1 s l v a b) a) b by unfold serveS; rw [if_pos c64]; rfl]; exact hX2, hF2.trans hF1⟩
  · refine wp_iconst (v := nI 0) d_Mod_serve_34 (by decide) ?_
    exact absurd (bI_inj.mp c31) hw
theorem c_Mod_serve {G : Gt} {o : Nat} {A : Nat → Nat} {Fi : Nat → Int32} {M : Nat → Nat → Int32} {Ml : Nat → Nat → Int64} {s : Sa} {n : Nat} (hI : mInj o A) (hR : RepM s Fi M Ml) (hV : Inv n s) (x : Int32) (v : Bool) : CallE G m_Mod_serve 3 54 [.ref o, .int x, .int (bI v)] (hM o A Fi M Ml) 0 0 (some (.int (stServe s x v).2.1)) (RefOK o A (stServe s x v)) := by
  cases hx : hasB (lnB s) x with
  | false =>
    rw [show stServe s x v = (1, 0, s) by unfold stServe; rw [hx]; rfl]
    exact CallR.E (CallR.up (c_Mod_serve0 hI hR.ln hx) (by decide) (by decide)) ⟨_, _, _, rfl, hR, rfl⟩
  | true =>
    obtain ⟨l, hl, rfl, hsome⟩ := hasB_of hx
    unfold lnB at hsome
    cases hc : sLn s l with
    | none => rw [hc] at hsome; cases hsome
    | some r =>
      obtain ⟨a, b, w⟩ := r
      have hsv : serves s l = w := by unfold serves; rw [hc]; cases w <;> rfl
      have e0 : stServe s (nI l) v = if w = v then (0, 0, s) else (0, 1, serveS s l v a b) := by
        unfold stServe
        rw [if_pos hx, nN_nI (by omega), hc]
      by_cases hw : w = v
      · rw [e0, if_pos hw]
        exact CallR.E (CallR.up (c_Mod_serve1 hI hR.ln hl hx (hsv.trans hw)) (by decide) (by decide)) ⟨_, _, _, rfl, hR, rfl⟩
      · rw [e0, if_neg hw]
        exact c_Mod_serve2 hI hR hV hl hx hc (by rw [hsv]; exact hw)
end Mod26
