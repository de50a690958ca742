section Mod27
abbrev addM (s : Sa) (r : Nat × List (List Nat) × Nat × Nat) : Sa := wMs s (sMs s ++ [r])
theorem cnt_old {s : Sa} {r : Nat × List (List Nat) × Nat × Nat} {m : Nat} (hm : m ≤ (sMs s).length) (h0 : 0 < (sMs s).length) : cntOf (addM s r) m = cntOf s m := by
  unfold cntOf
  show ((sMs s ++ [r]).getD (m - 1) (0, [], 0, 0)).2.1.length = _
  rw [List.getD_eq_getElem?_getD, List.getD_eq_getElem?_getD, List.getElem?_append_left (by omega)]
theorem cnt_new {s : Sa} {r : Nat × List (List Nat) × Nat × Nat} : cntOf (addM s r) ((sMs s).length + 1) = r.2.1.length := by
  unfold cntOf
  show ((sMs s ++ [r]).getD ((sMs s).length + 1 - 1) (0, [], 0, 0)).2.1.length = _
  rw [List.getD_eq_getElem?_getD, show (sMs s).length + 1 - 1 = (sMs s).length by omega]
  simp
theorem okP_add {s : Sa} {r : Nat × List (List Nat) × Nat × Nat} {m set : Nat} (h : okP s m set) : okP (addM s r) m set := by
  obtain ⟨h1, h2, h3⟩ := h
  refine ⟨h1, ?_, by rw [cnt_old h2 (by omega)]; exact h3⟩
  show m ≤ (sMs s ++ [r]).length
  rw [List.length_append]
  omega
theorem addM_B {n : Nat} {s : Sa} {r : Nat × List (List Nat) × Nat × Nat} (h : InvB n s) (hl : (sMs s).length < 200) (hr : okMs (sLog s).length r) : InvB n (addM s r) := by
  obtain ⟨hn, ⟨k1, k2, k3, k4, k5, k6, k7, k8⟩, ⟨i1, i2, i3, i4, i5⟩⟩ := h
  have hlen : (sMs (addM s r)).length = (sMs s).length + 1 := by
    show (sMs s ++ [r]).length = _
    rw [List.length_append]
    rfl
  have hcm : ∀ m, sCm (addM s r) m < 2 ^ cntOf (addM s r) m := by
    intro m
    show sCm s m < _
    by_cases h0 : m ≤ (sMs s).length ∧ 0 < (sMs s).length
    · rw [cnt_old h0.1 h0.2]
      exact i1 m
    · have hz : sCm s m = 0 := by
        rcases Nat.lt_or_ge (sMs s).length m with h1 | h1
        · exact i2 m h1
        · have h2 := i1 m
          have e : cntOf s m = 0 := by
            unfold cntOf
            rw [List.getD_eq_getElem?_getD, List.getElem?_eq_none (by omega)]
            rfl
          rw [e] at h2
          omega
      rw [hz]
      exact Nat.pow_pos (by decide)
  refine ⟨hn, ⟨k1, k2, k3, k4, k5, k6, by rw [hlen]; omega, fun m hm => ?_⟩, hcm, cm_zero hcm, fun c hc => ?_, fun c => ?_, fun x => ⟨(i5 x).1, fun m hm => ?_⟩⟩
  · rcases List.mem_append.mp hm with hm | hm
    · exact k8 m hm
    · rw [List.mem_singleton.mp hm]; exact hr
  · obtain ⟨q1, q2, q3, q4, q5⟩ := i3 c hc
    exact ⟨q1, q2, okP_add q3, q4, q5⟩
  · obtain ⟨q1, q2, q3, q4, q5⟩ := i4 c
    exact ⟨q1, q2, q3, fun x hx => ⟨okP_add (q4 x hx).1, (q4 x hx).2⟩, q5⟩
  · have := (i5 x).2 m hm
    rw [hlen]
    omega
theorem file_Inv {n : Nat} {s : Sa} {r : Nat × List (List Nat) × Nat × Nat} {x : Nat} (h : Inv n s) (hx : x < 6) (hl : (sMs s).length < 200) (hr : okMs (sLog s).length r) : Inv n (comesS (addM s r) x ((sMs s).length + 1) (2 ^ r.2.1.length - 1) 0) := by
  have hB := addM_B h.B hl hr
  have hlen : (sMs (addM s r)).length = (sMs s).length + 1 := by
    show (sMs s ++ [r]).length = _
    rw [List.length_append]
    rfl
  have hm : 1 ≤ (sMs s).length + 1 ∧ (sMs s).length + 1 ≤ (sMs (addM s r)).length := by omega
  have hB2 := comesS_B (set := 2 ^ r.2.1.length - 1) (by1 := 0) hB hx hm (by omega)
  have hp := comesS_phi (set := 2 ^ r.2.1.length - 1) (by1 := 0) hB hx hm
  have hsm := comesS_same (x := x) (set := 2 ^ r.2.1.length - 1) (by1 := 0) hB.CI hm
  have h7 := pc7_all r.2.1.length hr.2.2.1
  have h0 := h.2.2.2
  refine ⟨hB2.1, hB2.2.1, hB2.2.2, ?_⟩
  rw [hsm.2.2.1, hlen]
  have e : phi (addM s r) = phi s := rfl
  omega
theorem rep_file {n : Nat} {s : Sa} {Fi F1 : Nat → Int32} {M M1 : Nat → Nat → Int32} {Ml L1 : Nat → Nat → Int64} {p ln : Nat} {as : List (List Nat)} {res : PR (Nat × List (List Nat))} (hV : Inv n s) (hR : RepM s Fi M Ml) (hJ : JP res ((sMs s).length + 1) Fi M Ml F1 M1 L1) (he : res = .inl (p, as)) : RepM (addM s (p, as, ln, (sLog s).length)) (va_up F1 15 (nI ((sMs s).length + 1))) (u2 (u2 (u2 M1 16 ((sMs s).length + 1) (nI (sLog s).length)) 17 ((sMs s).length + 1) (nI ln)) 21 ((sMs s).length + 1) (nI 0)) L1 := by
  obtain ⟨j1, j2, j3, j4, j5, j6, _⟩ := hJ
  obtain ⟨q1, q2, q3, q4, q5⟩ := j6 p as he
  obtain ⟨r1, r2, r3, r4, r5, r6, r7, r8, r9, r10, r11⟩ := hR
  have e : ∀ a, a ≠ 18 → a ≠ 19 → M1 a = M a := j2
  have hlen : (sMs (addM s (p, as, ln, (sLog s).length))).length = (sMs s).length + 1 := by
    show (sMs s ++ [_]).length = _
    rw [List.length_append]
    rfl
  have E : ∀ a, a ≠ 16 → a ≠ 17 → a ≠ 18 → a ≠ 19 → a ≠ 21 → (u2 (u2 (u2 M1 16 ((sMs s).length + 1) (nI (sLog s).length)) 17 ((sMs s).length + 1) (nI ln)) 21 ((sMs s).length + 1) (nI 0)) a = M a := fun a x1 x2 x3 x4 x5 => by rw [u2_ne _ _ x5, u2_ne _ _ x2, u2_ne _ _ x1, e a x3 x4]
  refine ⟨⟨?_, ?_, ?_, ?_⟩, ?_, ?_, ?_, fun i m hi => ?_, fun m h1 h2 => ?_, ?_, ?_, ?_, ?_, ?_⟩
  · show F1 1 = _
    rw [j1 1 (by decide) (by decide) (by decide) (by decide)]; exact r1.1
  · show F1 2 = _
    rw [j1 2 (by decide) (by decide) (by decide) (by decide)]; exact r1.2.1
  · rw [hlen]; rfl
  · show F1 22 = _
    rw [j1 22 (by decide) (by decide) (by decide) (by decide)]; exact r1.2.2.2
  · rw [E 3 (by decide) (by decide) (by decide) (by decide) (by decide), E 4 (by decide) (by decide) (by decide) (by decide) (by decide), E 5 (by decide) (by decide) (by decide) (by decide) (by decide)]; exact r2
  · rw [E 6 (by decide) (by decide) (by decide) (by decide) (by decide), E 7 (by decide) (by decide) (by decide) (by decide) (by decide), E 8 (by decide) (by decide) (by decide) (by decide) (by decide), E 9 (by decide) (by decide) (by decide) (by decide) (by decide)]; exact r3
  · rw [E 10 (by decide) (by decide) (by decide) (by decide) (by decide), E 12 (by decide) (by decide) (by decide) (by decide) (by decide), E 13 (by decide) (by decide) (by decide) (by decide) (by decide), E 14 (by decide) (by decide) (by decide) (by decide) (by decide), j4 11 (by decide)]; exact r4
  · have hi2 : (sMs s ++ [(p, as, ln, (sLog s).length)])[i]? = some m := hi
    show upd (M1 16) ((sMs s).length + 1) (nI (sLog s).length) (i + 1) = nI m.2.2.2 ∧ upd (M1 17) ((sMs s).length + 1) (nI ln) (i + 1) = nI m.2.2.1 ∧ M1 18 (i + 1) = nI m.1 ∧ M1 19 (i + 1) = nI m.2.1.length ∧ ∀ k a, m.2.1[k]? = some a → L1 20 (7 * (i + 1) + k) = lN (beN a)
    by_cases hil : i = (sMs s).length
    · subst hil
      simp at hi2
      subst hi2
      refine ⟨by simp [upd], by simp [upd], q1, q3, q4⟩
    · have hlt : i < (sMs s).length := by
        have := (List.getElem?_eq_some_iff.mp hi2).1
        simp at this
        omega
      rw [List.getElem?_append_left hlt] at hi2
      obtain ⟨a1, a2, a3, a4, a5⟩ := r5 i m hi2
      have ho := hV.ms (List.mem_of_getElem? hi2)
      refine ⟨?_, ?_, ?_, ?_, fun k a hk => ?_⟩
      · unfold upd
        rw [if_neg (by omega), e 16 (by decide) (by decide)]; exact a1
      · unfold upd
        rw [if_neg (by omega), e 17 (by decide) (by decide)]; exact a2
      · rw [(j3 (i + 1) (by omega)).1]; exact a3
      · rw [(j3 (i + 1) (by omega)).2]; exact a4
      · have hk7 : k < m.2.1.length := (List.getElem?_eq_some_iff.mp hk).1
        have := ho.2.2.1
        rw [j5 _ (by omega)]
        exact a5 k a hk
  · rw [hlen] at h2
    show upd (M1 21) ((sMs s).length + 1) (nI 0) m = nI (sCm s m)
    unfold upd
    by_cases hml : m = (sMs s).length + 1
    · rw [if_pos hml, hml, hV.2.2.1.2.1 _ (by omega)]
    · rw [if_neg hml, e 21 (by decide) (by decide)]
      exact r6 m h1 (by omega)
  · rw [E 23 (by decide) (by decide) (by decide) (by decide) (by decide)]; exact r7
  · rw [E 24 (by decide) (by decide) (by decide) (by decide) (by decide), E 25 (by decide) (by decide) (by decide) (by decide) (by decide), E 26 (by decide) (by decide) (by decide) (by decide) (by decide), E 27 (by decide) (by decide) (by decide) (by decide) (by decide), E 28 (by decide) (by decide) (by decide) (by decide) (by decide), E 29 (by decide) (by decide) (by decide) (by decide) (by decide), E 30 (by decide) (by decide) (by decide) (by decide) (by decide), E 31 (by decide) (by decide) (by decide) (by decide) (by decide), E 32 (by decide) (by decide) (by decide) (by decide) (by decide)]; exact r8
  · rw [E 33 (by decide) (by decide) (by decide) (by decide) (by decide)]; exact r9
  · rw [E 34 (by decide) (by decide) (by decide) (by decide) (by decide)]; exact r10
  · rw [E 35 (by decide) (by decide) (by decide) (by decide) (by decide), E 36 (by decide) (by decide) (by decide) (by decide) (by decide)]; exact r11
/-- a text that is not good leaves the state -/
theorem rep_nofile {n : Nat} {s : Sa} {Fi F1 : Nat → Int32} {M M1 : Nat → Nat → Int32} {Ml L1 : Nat → Nat → Int64} {res : PR (Nat × List (List Nat))} (hV : Inv n s) (hR : RepM s Fi M Ml) (hJ : JP res ((sMs s).length + 1) Fi M Ml F1 M1 L1) : RepM s F1 M1 L1 := by
  obtain ⟨j1, j2, j3, j4, j5, _⟩ := hJ
  obtain ⟨r1, r2, r3, r4, r5, r6, r7, r8, r9, r10, r11⟩ := hR
  have e : ∀ a, a ≠ 18 → a ≠ 19 → M1 a = M a := j2
  refine ⟨⟨?_, ?_, ?_, ?_⟩, ?_, ?_, ?_, fun i m hi => ?_, ?_, ?_, ?_, ?_, ?_, ?_⟩
  · rw [j1 1 (by decide) (by decide) (by decide) (by decide)]; exact r1.1
  · rw [j1 2 (by decide) (by decide) (by decide) (by decide)]; exact r1.2.1
  · rw [j1 15 (by decide) (by decide) (by decide) (by decide)]; exact r1.2.2.1
  · rw [j1 22 (by decide) (by decide) (by decide) (by decide)]; exact r1.2.2.2
  · rw [e 3 (by decide) (by decide), e 4 (by decide) (by decide), e 5 (by decide) (by decide)]; exact r2
  · rw [e 6 (by decide) (by decide), e 7 (by decide) (by decide), e 8 (by decide) (by decide), e 9 (by decide) (by decide)]; exact r3
  · rw [e 10 (by decide) (by decide), e 12 (by decide) (by decide), e 13 (by decide) (by decide), e 14 (by decide) (by decide), j4 11 (by decide)]; exact r4
  · have hlt : i < (sMs s).length := (List.getElem?_eq_some_iff.mp hi).1
    obtain ⟨a1, a2, a3, a4, a5⟩ := r5 i m hi
    have ho := hV.ms (List.mem_of_getElem? hi)
    refine ⟨by rw [e 16 (by decide) (by decide)]; exact a1, by rw [e 17 (by decide) (by decide)]; exact a2, by rw [(j3 (i + 1) (by omega)).1]; exact a3, by rw [(j3 (i + 1) (by omega)).2]; exact a4, fun k a hk => ?_⟩
    have hk7 : k < m.2.1.length := (List.getElem?_eq_some_iff.mp hk).1
    have := ho.2.2.1
    rw [j5 _ (by omega)]
    exact a5 k a hk
  · rw [e 21 (by decide) (by decide)]; exact r6
  · rw [e 23 (by decide) (by decide)]; exact r7
  · rw [e 24 (by decide) (by decide), e 25 (by decide) (by decide), e 26 (by decide) (by decide), e 27 (by decide) (by decide), e 28 (by decide) (by decide), e 29 (by decide) (by decide), e 30 (by decide) (by decide), e 31 (by decide) (by decide), e 32 (by decide) (by decide)]; exact r8
  · rw [e 33 (by decide) (by decide)]; exact r9
  · rw [e 34 (by decide) (by decide)]; exact r10
  · rw [e 35 (by decide) (by decide), e 36 (by decide) (by decide)]; exact r11
set_option maxRecDepth 20000 in
theorem c_Mod_file0 {G : Gt} {o : Nat} {A : Nat → Nat} {Fi : Nat → Int32} {M : Nat → Nat → Int32} {Ml : Nat → Nat → Int64} {x n : Int32} (hx : (swB x && inZ n (nI 0) (nI 1600)) = false) : CallR G m_Mod_file 2 27 [.ref o, .int x, .int n] (hM o A Fi M Ml) 0 0 (some (.int (nI 0))) (hM o A (va_up Fi 0 (nI 1)) M Ml) := by
  refine CallS.of (Nat.le_of_ble_eq_true rfl) ?_
  refine wp_aload_n d_Mod_file_0 rfl 0 rfl ?_
  refine wp_iload_n d_Mod_file_1 rfl 1 rfl ?_
  refine wp_callV (r := 1) d_Mod_file_2 (link_S (av := [.int x]) (rest := [.ref o]) d_Mod_file_2 cal_Mod_isSwitch wM_Mod_123 rfl) cal_Mod_isSwitch (c_Mod_isSwitch x) (Nat.le_of_ble_eq_true rfl) ⟨Nat.le_of_ble_eq_true rfl, Nat.le_of_ble_eq_true rfl⟩ ?_
  refine wp_if_eqB (tgt := 23) d_Mod_file_5 (by decide) (fun c5 => ?_) (fun c5 => ?_)
  · refine wp_iconst (v := nI 1) d_Mod_file_23 (by decide) ?_
    refine wm_put (Fi' := va_up Fi 0 (nI 1)) d_Mod_file_24 0 (by decide) wF_Mod_111 rfl (by decide) rfl ?_
    refine wp_aload_n d_Mod_file_27 rfl 0 rfl ?_
    refine wm_get d_Mod_file_28 0 (by decide) wF_Mod_111 rfl ?_
    refine wp_toI (z := (nI 1)) (rfl) ?_
    refine wp_if_leN (tgt := 36) d_Mod_file_31 (by decide) (by omega) (fun c => absurd c (by decide)) (fun _ => ?_)
    refine wp_iconst (v := nI 0) d_Mod_file_34 (by decide) ?_
    exact wp_iret d_Mod_file_35 rfl ⟨rfl, rfl⟩
  · refine wp_iload_n d_Mod_file_8 rfl 2 rfl ?_
    refine wp_iconst (v := nI 0) d_Mod_file_9 (by decide) ?_
    refine wp_sipush (v := nI 1600) d_Mod_file_10 (by decide) ?_
    refine wp_callV (r := 1) d_Mod_file_13 (link_S (av := [.int n, .int (nI 0), .int (nI 1600)]) (rest := [.ref o]) d_Mod_file_13 cal_Mod_in wM_Mod_115 rfl) cal_Mod_in (c_Mod_in n (nI 0) (nI 1600)) (Nat.le_of_ble_eq_true rfl) ⟨Nat.le_of_ble_eq_true rfl, Nat.le_of_ble_eq_true rfl⟩ ?_
    refine wp_if_eqB (tgt := 23) d_Mod_file_16 (by decide) (fun c16 => ?_) (fun c16 => ?_)
    · refine wp_iconst (v := nI 1) d_Mod_file_23 (by decide) ?_
      refine wm_put (Fi' := va_up Fi 0 (nI 1)) d_Mod_file_24 0 (by decide) wF_Mod_111 rfl (by decide) rfl ?_
      refine wp_aload_n d_Mod_file_27 rfl 0 rfl ?_
      refine wm_get d_Mod_file_28 0 (by decide) wF_Mod_111 rfl ?_
      refine wp_toI (z := (nI 1)) (rfl) ?_
      refine wp_if_leN (tgt := 36) d_Mod_file_31 (by decide) (by omega) (fun c => absurd c (by decide)) (fun _ => ?_)
      refine wp_iconst (v := nI 0) d_Mod_file_34 (by decide) ?_
      exact wp_iret d_Mod_file_35 rfl ⟨rfl, rfl⟩
    · exact absurd hx (by rw [show swB x = true from c5, c16]; decide)
set_option maxRecDepth 20000 in
theorem c_Mod_file1 {G : Gt} {o : Nat} {A : Nat → Nat} {Fi : Nat → Int32} {M : Nat → Nat → Int32} {Ml : Nat → Nat → Int64} {x n : Nat} (hx : x < 6) (hn : n ≤ 1600) (hq : Fi 15 = nI 200) : CallR G m_Mod_file 2 27 [.ref o, .int (nI x), .int (nI n)] (hM o A Fi M Ml) 0 0 (some (.int (nI 0))) (hM o A (va_up (va_up Fi 0 (nI 0)) 0 (nI 2)) M Ml) := by
  refine CallS.of (Nat.le_of_ble_eq_true rfl) ?_
  refine wp_aload_n d_Mod_file_0 rfl 0 rfl ?_
  refine wp_iload_n d_Mod_file_1 rfl 1 rfl ?_
  refine wp_callV (r := 1) d_Mod_file_2 (link_S (av := [.int (nI x)]) (rest := [.ref o]) d_Mod_file_2 cal_Mod_isSwitch wM_Mod_123 rfl) cal_Mod_isSwitch (c_Mod_isSwitchT (by omega)) (Nat.le_of_ble_eq_true rfl) ⟨Nat.le_of_ble_eq_true rfl, Nat.le_of_ble_eq_true rfl⟩ ?_
  refine wp_if_eqB (tgt := 23) d_Mod_file_5 (by decide) (fun c => absurd c (by decide)) (fun _ => ?_)
  refine wp_iload_n d_Mod_file_8 rfl 2 rfl ?_
  refine wp_iconst (v := nI 0) d_Mod_file_9 (by decide) ?_
  refine wp_sipush (v := nI 1600) d_Mod_file_10 (by decide) ?_
  refine wp_callV (r := 1) d_Mod_file_13 (link_S (av := [.int (nI n), .int (nI 0), .int (nI 1600)]) (rest := [.ref o]) d_Mod_file_13 cal_Mod_in wM_Mod_115 rfl) cal_Mod_in (c_Mod_inT (by omega) (by omega) (by omega)) (Nat.le_of_ble_eq_true rfl) ⟨Nat.le_of_ble_eq_true rfl, Nat.le_of_ble_eq_true rfl⟩ ?_
  refine wp_if_eqB (tgt := 23) d_Mod_file_16 (by decide) (fun c => absurd c (by decide)) (fun _ => ?_)
  refine wp_iconst (v := nI 0) d_Mod_file_19 (by decide) ?_
  refine wp_goto (tgt := 24) d_Mod_file_20 (by decide) ?_
  refine wm_put (Fi' := va_up Fi 0 (nI 0)) d_Mod_file_24 0 (by decide) wF_Mod_111 rfl (by decide) rfl ?_
  refine wp_aload_n d_Mod_file_27 rfl 0 rfl ?_
  refine wm_get d_Mod_file_28 0 (by decide) wF_Mod_111 rfl ?_
  refine wp_toI (z := (nI 0)) (rfl) ?_
  refine wp_if_leN (tgt := 36) d_Mod_file_31 (by decide) (by omega) (fun _ => ?_) (fun c => absurd c (by decide))
  refine wp_aload_n d_Mod_file_36 rfl 0 rfl ?_
  refine wm_get d_Mod_file_37 15 (by decide) wF_Mod_189 rfl ?_
  refine wp_toI (z := (nI 200)) (hq) ?_
  refine wp_sipush (v := nI 200) d_Mod_file_40 (by decide) ?_
  refine wp_neN (tgt := 52) d_Mod_file_43 (by decide) (by omega) (by omega) (fun c => absurd c (by decide)) (fun _ => ?_)
  refine wp_aload_n d_Mod_file_46 rfl 0 rfl ?_
  refine wp_iconst (v := nI 2) d_Mod_file_47 (by decide) ?_
  refine wp_callV (r := 0) d_Mod_file_48 (link_V (as := [.int (nI 2)]) (rest := []) (r := (R_Mod, T_Mod, 43)) d_Mod_file_48 cal_Mod_raise wM_Mod_192 rfl hM_o rfl) cal_Mod_raise (c_Mod_raise (nI 2)) (Nat.le_of_ble_eq_true rfl) ⟨Nat.le_of_ble_eq_true rfl, Nat.le_of_ble_eq_true rfl⟩ ?_
  exact wp_iret d_Mod_file_51 rfl ⟨rfl, rfl⟩
set_option maxRecDepth 20000 in
theorem c_Mod_file2 {G : Gt} {o : Nat} {A : Nat → Nat} {Fi : Nat → Int32} {M : Nat → Nat → Int32} {Ml : Nat → Nat → Int64} {s : Sa} (hI : mInj o A) {n : Nat} (hR : RepM s Fi M Ml) (hV : Inv n s) {x ln : Nat} (hx : x < 6) (hln : ln ≤ 1600) (hlt : (sMs s).length < 200) : CallE G m_Mod_file 5 71 [.ref o, .int (nI x), .int (nI ln)] (hM o A Fi M Ml) 0 0 (some (.int (stFile s (nI x) (nI ln)).2.1)) (RefOK o A (stFile s (nI x) (nI ln))) := by
  have hst : stFile s (nI x) (nI ln) = match judge (gv (txtR (sLog s)) ln) with
    | .inr f => (0, -1 - nI (10 * f.1) - nI f.2, s)
    | .inl q => (0, nI ((sMs s).length + 1), comesS (addM s (q.1, q.2, ln, (sLog s).length)) x ((sMs s).length + 1) (2 ^ q.2.length - 1) 0) := by
    unfold stFile
    rw [swB_nI hx, show inZ (nI ln) (nI 0) (nI 1600) = true by rw [inZ_nI (by omega) (by decide) (by decide)]; exact decide_eq_true (by omega), nN_nI (by omega), nN_nI (by omega), if_pos (by decide), if_neg (by omega)]
    rfl
  refine CallS.of (Nat.le_of_ble_eq_true rfl) ?_
  refine wp_aload_n d_Mod_file_0 rfl 0 rfl ?_
  refine wp_iload_n d_Mod_file_1 rfl 1 rfl ?_
  refine wp_callV (r := 1) d_Mod_file_2 (link_S (av := [.int (nI x)]) (rest := [.ref o]) d_Mod_file_2 cal_Mod_isSwitch wM_Mod_123 rfl) cal_Mod_isSwitch (c_Mod_isSwitchT (by omega)) (Nat.le_of_ble_eq_true rfl) ⟨Nat.le_of_ble_eq_true rfl, Nat.le_of_ble_eq_true rfl⟩ ?_
  refine wp_if_eqB (tgt := 23) d_Mod_file_5 (by decide) (fun c => absurd c (by decide)) (fun _ => ?_)
  refine wp_iload_n d_Mod_file_8 rfl 2 rfl ?_
  refine wp_iconst (v := nI 0) d_Mod_file_9 (by decide) ?_
  refine wp_sipush (v := nI 1600) d_Mod_file_10 (by decide) ?_
  refine wp_callV (r := 1) d_Mod_file_13 (link_S (av := [.int (nI ln), .int (nI 0), .int (nI 1600)]) (rest := [.ref o]) d_Mod_file_13 cal_Mod_in wM_Mod_115 rfl) cal_Mod_in (c_Mod_inT (by omega) (by omega) (by omega)) (Nat.le_of_ble_eq_true rfl) ⟨Nat.le_of_ble_eq_true rfl, Nat.le_of_ble_eq_true rfl⟩ ?_
  refine wp_if_eqB (tgt := 23) d_Mod_file_16 (by decide) (fun c => absurd c (by decide)) (fun _ => ?_)
  refine wp_iconst (v := nI 0) d_Mod_file_19 (by decide) ?_
  refine wp_goto (tgt := 24) d_Mod_file_20 (by decide) ?_
  refine wm_put (Fi' := va_up Fi 0 (nI 0)) d_Mod_file_24 0 (by decide) wF_Mod_111 rfl (by decide) rfl ?_
  refine wp_aload_n d_Mod_file_27 rfl 0 rfl ?_
  refine wm_get d_Mod_file_28 0 (by decide) wF_Mod_111 rfl ?_
  refine wp_toI (z := (nI 0)) (rfl) ?_
  refine wp_if_leN (tgt := 36) d_Mod_file_31 (by decide) (by omega) (fun _ => ?_) (fun c => absurd c (by decide))
  refine wp_aload_n d_Mod_file_36 rfl 0 rfl ?_
  refine wm_get d_Mod_file_37 15 (by decide) wF_Mod_189 rfl ?_
  refine wp_toI (z := (nI ((sMs s).length))) (hR.fi.2.2.1) ?_
  refine wp_sipush (v := nI 200) d_Mod_file_40 (by decide) ?_
  refine wp_neN (tgt := 52) d_Mod_file_43 (by decide) (by omega) (by omega) (fun c43 => ?_) (fun c43 => ?_)
  · refine wp_aload_n d_Mod_file_52 rfl 0 rfl ?_
    refine wp_iload_n d_Mod_file_53 rfl 2 rfl ?_
    refine wm_put (Fi' := va_up (va_up Fi 0 (nI 0)) 39 (nI ln)) d_Mod_file_54 39 (by decide) wF_Mod_142 rfl (by decide) rfl ?_
    refine wp_aload_n d_Mod_file_57 rfl 0 rfl ?_
    refine wm_get d_Mod_file_58 15 (by decide) wF_Mod_189 rfl ?_
    refine wp_toI (z := (nI ((sMs s).length))) (hR.fi.2.2.1) ?_
    refine wp_iconst (v := nI 1) d_Mod_file_61 (by decide) ?_
    refine wp_iaddN d_Mod_file_62 ?_
    refine wp_istore_n (lv' := [(3, .int (nI (((sMs s).length) + 1))), (0, .ref o), (1, .int (nI x)), (2, .int (nI ln))]) d_Mod_file_63 rfl (by decide) rfl ?_
    refine wp_aload_n d_Mod_file_64 rfl 1 rfl ?_
    refine wp_iload_n d_Mod_file_65 rfl 0 rfl ?_
    refine wp_callEV (k' := 0) (n' := 0) (r := 0) d_Mod_file_66 (link_V (as := [.int (nI (((sMs s).length) + 1))]) (rest := []) (r := (R_Mod, T_Mod, 43)) d_Mod_file_66 cal_Mod_judge wM_Mod_195 rfl hM_o rfl) cal_Mod_judge (c_Mod_judge (t := txtR (sLog s)) (ln := ln) (Fi := (va_up (va_up Fi 0 (nI 0)) 39 (nI ln))) hI ⟨hln, rfl, hR.lg.2, txtR_lt _⟩ (m := (sMs s).length + 1) (by omega)) (Nat.le_of_ble_eq_true rfl) ⟨Nat.le_of_ble_eq_true rfl, Nat.le_of_ble_eq_true rfl⟩ (fun h' q66 => ?_)
    obtain ⟨F1, M1, L1, rfl, hP⟩ := q66
    have hF1 : ∀ j, j ≠ 37 → j ≠ 38 → j ≠ 40 → j ≠ 41 → F1 j = (va_up (va_up Fi 0 (nI 0)) 39 (nI ln)) j := hP.1
    refine wp_if_neB (tgt := 87) d_Mod_file_69 (by decide) (fun c69 => ?_) (fun c69 => ?_)
    · obtain ⟨⟨p, as⟩, he⟩ := inl_of c69
      have hjt := hP.2.2.2.2.2.1 p as he
      have hRf := rep_file (ln := ln) hV (show RepM s (va_up (va_up Fi 0 (nI 0)) 39 (nI ln)) M Ml from hR) hP he
      have hor : okMs (sLog s).length (p, as, ln, (sLog s).length) := ⟨hjt.2.1, hjt.2.2.2.2.2.1, hjt.2.2.2.2.1, hjt.2.2.2.2.2.2, hln, Nat.le_refl _⟩
      have hVf := file_Inv hV hx hlt hor
      have hBf := addM_B hV.B hlt hor
      have h7 := hjt.2.2.2.2.1
      have hpw : 2 ^ as.length ≤ 2 ^ 7 := Nat.pow_le_pow_right (by decide) h7
      have hpp : 1 ≤ 2 ^ as.length := Nat.pow_pos (by decide)
      refine wp_aload_n d_Mod_file_87 rfl 1 rfl ?_
      refine wp_iload_n d_Mod_file_88 rfl 0 rfl ?_
      refine wm_put (Fi' := va_up F1 15 (nI (((sMs s).length) + 1))) d_Mod_file_89 15 (by decide) wF_Mod_189 rfl (by decide) rfl ?_
      refine wp_aload_n d_Mod_file_92 rfl 1 rfl ?_
      refine wm_get d_Mod_file_93 16 (by decide) wF_Mod_48 rfl ?_
      refine wp_iload_n d_Mod_file_96 rfl 0 rfl ?_
      refine wp_aload_n d_Mod_file_97 rfl 1 rfl ?_
      refine wm_get d_Mod_file_98 2 (by decide) wF_Mod_133 rfl ?_
      refine wp_toI (z := (nI ((sLog s).length))) ((hF1 2 (by decide) (by decide) (by decide) (by decide)).trans hR.fi.2.1) ?_
      refine wm_ist (j := 16) d_Mod_file_101 hI (by decide) (by decide) (by show _ < 201; omega) (by decide) ?_
      refine wp_aload_n d_Mod_file_102 rfl 1 rfl ?_
      refine wm_get d_Mod_file_103 17 (by decide) wF_Mod_51 rfl ?_
      refine wp_iload_n d_Mod_file_106 rfl 0 rfl ?_
      refine wp_iload_n d_Mod_file_107 rfl 3 rfl ?_
      refine wm_ist (j := 17) d_Mod_file_108 hI (by decide) (by decide) (by show _ < 201; omega) (by decide) ?_
      refine wp_aload_n d_Mod_file_109 rfl 1 rfl ?_
      refine wm_get d_Mod_file_110 21 (by decide) wF_Mod_63 rfl ?_
      refine wp_iload_n d_Mod_file_113 rfl 0 rfl ?_
      refine wp_iconst (v := nI 0) d_Mod_file_114 (by decide) ?_
      refine wm_ist (j := 21) d_Mod_file_115 hI (by decide) (by decide) (by show _ < 201; omega) (by decide) ?_
      refine wp_aload_n d_Mod_file_116 rfl 1 rfl ?_
      refine wp_iload_n d_Mod_file_117 rfl 2 rfl ?_
      refine wp_iload_n d_Mod_file_118 rfl 0 rfl ?_
      refine wp_iconst (v := nI 1) d_Mod_file_119 (by decide) ?_
      refine wp_aload_n d_Mod_file_120 rfl 1 rfl ?_
      refine wm_get d_Mod_file_121 19 (by decide) wF_Mod_57 rfl ?_
      refine wp_iload_n d_Mod_file_124 rfl 0 rfl ?_
      refine wm_ild (j := 19) (x := (nI (as.length))) d_Mod_file_125 hI (by decide) (by decide) (by show _ < 201; omega) (by decide) (by rw [u2_ne _ _ (by decide), u2_ne _ _ (by decide), u2_ne _ _ (by decide)]; exact hjt.2.2.1) ?_
      refine wp_ishlN d_Mod_file_126 (by omega) (by omega) ?_
      refine wp_iconst (v := nI 1) d_Mod_file_127 (by decide) ?_
      refine wp_isubN d_Mod_file_128 (by omega) ?_
      refine wp_toI (z := (nI (2 ^ as.length - 1))) (by rw [Nat.one_mul]) ?_
      refine wp_iconst (v := -1) d_Mod_file_129 (by decide) ?_
      refine wp_callEU (k' := 0) (n' := 0) (r := 0) d_Mod_file_130 (link_V (as := [.int (nI x), .int (nI (((sMs s).length) + 1)), .int (nI (2 ^ as.length - 1)), .int (-1)]) (rest := []) (r := (R_Mod, T_Mod, 43)) d_Mod_file_130 cal_Mod_comes wM_Mod_198 rfl hM_o rfl) cal_Mod_comes (c_Mod_comes (by1 := 0) hI hRf hBf.CI (hBf.CS x) hx ⟨by omega, by show _ ≤ (sMs s ++ [_]).length; simp⟩ (by omega) (by omega) (c_bCp hVf).1) (Nat.le_of_ble_eq_true rfl) ⟨Nat.le_of_ble_eq_true rfl, Nat.le_of_ble_eq_true rfl⟩ (fun h' q130 => ?_)
      obtain ⟨F2, X2, rfl, hX2, hF2⟩ := q130
      refine wp_iload_n d_Mod_file_133 rfl 0 rfl ?_
      exact wp_iret d_Mod_file_134 rfl ⟨by rw [hst, he], by rw [hst, he]; exact ⟨F2, X2, L1, rfl, hX2, hF2.trans (hF1 0 (by decide) (by decide) (by decide) (by decide))⟩⟩
    · obtain ⟨f, hf⟩ := inr_of c69
      have hjf := hP.2.2.2.2.2.2 f hf
      refine wp_iconst (v := -1) d_Mod_file_72 (by decide) ?_
      refine wp_bipush (v := nI 10) d_Mod_file_73 (by decide) ?_
      refine wp_aload_n d_Mod_file_75 rfl 1 rfl ?_
      refine wm_get d_Mod_file_76 37 (by decide) wF_Mod_136 rfl ?_
      refine wp_toI (z := (nI (f.1))) (hjf.1) ?_
      refine wp_imulN d_Mod_file_79 ?_
      refine wp_isub d_Mod_file_80 ?_
      refine wp_aload_n d_Mod_file_81 rfl 1 rfl ?_
      refine wm_get d_Mod_file_82 38 (by decide) wF_Mod_139 rfl ?_
      refine wp_toI (z := (nI (f.2))) (hjf.2) ?_
      refine wp_isub d_Mod_file_85 ?_
      exact wp_iret d_Mod_file_86 rfl ⟨by rw [hst, hf], by rw [hst, hf]; exact ⟨F1, M1, L1, rfl, rep_nofile hV (show RepM s (va_up (va_up Fi 0 (nI 0)) 39 (nI ln)) M Ml from hR) hP, hF1 0 (by decide) (by decide) (by decide) (by decide)⟩⟩
  · exact absurd c43 (by omega)
theorem c_Mod_file {G : Gt} {o : Nat} {A : Nat → Nat} {Fi : Nat → Int32} {M : Nat → Nat → Int32} {Ml : Nat → Nat → Int64} {s : Sa} {n : Nat} (hI : mInj o A) (hR : RepM s Fi M Ml) (hV : Inv n s) (x ln : Int32) : CallE G m_Mod_file 5 71 [.ref o, .int x, .int ln] (hM o A Fi M Ml) 0 0 (some (.int (stFile s x ln).2.1)) (RefOK o A (stFile s x ln)) := by
  have hms := hV.2.1.2.2.2.2.2.2.1
  cases hx : swB x && inZ ln (nI 0) (nI 1600) with
  | false =>
    rw [show stFile s x ln = (1, 0, s) by unfold stFile; rw [hx]; rfl]
    exact CallR.E (CallR.up (c_Mod_file0 hx) (by decide) (by decide)) ⟨_, _, _, rfl, hR, rfl⟩
  | true =>
    have hx0 := hx
    rw [Bool.and_eq_true] at hx
    obtain ⟨j, hj, rfl⟩ := swB_of hx.1
    obtain ⟨L, _, hL, rfl⟩ := inZ_w (by decide) (by decide) hx.2
    by_cases h2 : (sMs s).length = 200
    · rw [show stFile s (nI j) (nI L) = (2, 0, s) by unfold stFile; rw [hx0, if_pos rfl, if_pos h2]]
      exact CallR.E (CallR.up (c_Mod_file1 hj hL (by rw [hR.fi.2.2.1, h2])) (by decide) (by decide)) ⟨_, _, _, rfl, hR, rfl⟩
    · exact c_Mod_file2 hI hR hV hj hL (by omega)
end Mod27
