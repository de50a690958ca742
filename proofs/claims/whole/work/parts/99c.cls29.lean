section Cls29
set_option maxRecDepth 20000 in
theorem c_Arrays_copyOfT {G : Gt}  {a len n : Nat} {f : Nat → Int32} (hf : ∀ i, i < len → fits .byte (.int (f i)) = true) (hn : n ≤ len) (hlen : len ≤ 1600) : CallS G m_Arrays_copyOf 1 30 [.ref a, .int (nI n)] (hs1 a (.inl (2, len, .inl f))) 1 n (fun r h' => ∃ (q : Nat) (g : Nat → Int32), q ≠ a ∧ r = .inl (some (.ref q)) ∧ (∀ i, i < n → g i = f i) ∧ h' = hup (hs1 a (.inl (2, len, .inl f))) q (.inl (2, n, .inl g))) := by
  refine CallS.of (Nat.le_of_ble_eq_true rfl) ?_
  refine wp_iload_n d_Arrays_copyOf_0 rfl 1 rfl ?_
  refine wp_aload_n d_Arrays_copyOf_1 rfl 0 rfl ?_
  refine wp_alen (N := 0) (v := nI len) d_Arrays_copyOf_2 hs1_a rfl rfl ?_
  refine wp_neN (tgt := 14) d_Arrays_copyOf_3 (by decide) (by omega) (by omega) (fun c3 => ?_) (fun c3 => ?_)
  · refine wp_iload_n d_Arrays_copyOf_14 rfl 1 rfl ?_
    refine wp_nA ?_
    refine wp_newa (t := 2) (N := n) (a0 := (n, .inl fun _ => 0)) d_Arrays_copyOf_15 rfl rfl (fun C h9 => by cases h9) wCa_B (fun cA => rfl) (nI_pos (by omega)) (nI_clamp (by omega)) (by show n * 1 ≤ _; omega) (fun q1 hq1 => ?_)
    refine wp_astore_n (lv' := [(2, .ref q1), (0, .ref a), (1, .int (nI n))]) d_Arrays_copyOf_17 rfl (by decide) rfl ?_
    refine wp_aload_n d_Arrays_copyOf_18 rfl 1 rfl ?_
    refine wp_iconst (v := nI 0) d_Arrays_copyOf_19 (by decide) ?_
    refine wp_aload_n d_Arrays_copyOf_20 rfl 0 rfl ?_
    refine wp_iconst (v := nI 0) d_Arrays_copyOf_21 (by decide) ?_
    refine wp_aload_n d_Arrays_copyOf_22 rfl 1 rfl ?_
    refine wp_alen (N := 0) (v := nI len) d_Arrays_copyOf_23 (hup_a hq1) rfl rfl ?_
    refine wp_iload_n d_Arrays_copyOf_24 rfl 2 rfl ?_
    refine wp_callVF (r := 4) d_Arrays_copyOf_25 (link_SF (av := [.int (nI len), .int (nI n)]) (rest := [.int (nI 0), .ref q1, .int (nI 0), .ref a]) d_Arrays_copyOf_25 cal_Math_min wM_Arr_304 rfl) cal_Math_min (c_Math_min (by omega) (by omega)) (Nat.le_of_ble_eq_true rfl) ⟨Nat.le_of_ble_eq_true rfl, Nat.le_of_ble_eq_true rfl⟩ ?_
    refine wp_toI (z := (nI n)) (congrArg nI (by omega)) ?_
    refine wp_copyi (nn := n) d_Arrays_copyOf_28 (hs2_d hq1) (Ne.symm (hs1_n hq1)) (hup_a hq1) (hup_eq _ _ _) rfl rfl wCy_B (by omega) (by omega) (by omega) (fun i hi => hf i (by omega)) ⟨Nat.le_of_ble_eq_true rfl, cpyW⟩ ?_
    refine wp_aload_n d_Arrays_copyOf_31 rfl 0 rfl ?_
    exact wp_aret d_Arrays_copyOf_32 rfl (Or.inr ⟨_, rfl⟩) (Or.inr ⟨_, rfl⟩) ⟨q1, _, hs1_n hq1, rfl, fun i hi => by show (if 0 ≤ i ∧ i < 0 + n then _ else _) = _; rw [if_pos (by omega)]; congr 1; omega, hup_hup _ _ _ _⟩
  · refine wp_aload_n d_Arrays_copyOf_6 rfl 0 rfl ?_
    obtain rfl : n = len := by omega
    refine wp_n0 ?_
    refine wp_clone1 (k := 0) (n := 0) (x := (n, .inl f)) d_Arrays_copyOf_7 hs1_d hs1_a rfl wCl_B wCc_B (fun U cA hr => va_nm_byte hr) (fun cA i v hv => va_fit (fun j hj => hf j hj) i v hv) ⟨Nat.le_of_ble_eq_true rfl, Nat.le_of_ble_eq_true rfl⟩ (fun q1 hq1 => ?_)
    refine wp_castA d_Arrays_copyOf_10 (hup_eq _ _ _) rfl wCk_B (fun U cA hr => va_nm_byte hr) ?_
    exact wp_aret d_Arrays_copyOf_13 rfl (Or.inr ⟨_, rfl⟩) (Or.inr ⟨_, rfl⟩) ⟨q1, f, hs1_n hq1, rfl, fun _ _ => rfl, rfl⟩
theorem cN_Arrays_copyOfT {G : Gt} {K N : Nat → Nat} {I : Nat → Nat → Int32} {R : Nat → Nat → Option Nat} {L : Nat → Nat → Int64} {E : Nat → Nat → Int32} {El : Nat → Nat → Int64} {Er : Nat → Nat → Option Nat} {a len n : Nat} (hk : K a = 20 + 2) (hNa : N a = len) (hf : ∀ i, i < len → fits .byte (.int (E a i)) = true) (hn : n ≤ len) (hlen : len ≤ 1600) : CallS G m_Arrays_copyOf 1 30 [.ref a, .int (nI n)] (hN K N I R L E El Er) 1 n (fun r h' => ∃ (q : Nat) (g : Nat → Int32), K q = 0 ∧ r = .inl (some (.ref q)) ∧ (∀ i, i < n → g i = E a i) ∧ h' = hN (va_up K q (20 + 2)) (va_up N q n) I R L (va_up E q g) El Er) := by
  have ha : hN K N I R L E El Er a = some (.inl (2, len, .inl (E a))) := by rw [hN_a hk, hNa]; rfl
  have hD : Dj (hs1 a (.inl (2, len, .inl (E a)))) (fun p => if p = a then none else hN K N I R L E El Er p) := fun q hq => by rw [hs1_d q hq]; exact if_pos rfl
  have e : hor (hs1 a (.inl (2, len, .inl (E a)))) (fun p => if p = a then none else hN K N I R L E El Er p) = hN K N I R L E El Er := by
    funext p
    by_cases hp : p = a
    · subst hp
      rw [hor_l hs1_a, ha]
    · rw [hor_r (hs1_o hp), if_neg hp]
  have := (c_Arrays_copyOfT (G := G) (f := E a) hf hn hlen).frame hD
  rw [e] at this
  refine this.mono (Nat.le_refl _) (Nat.le_refl _) (Nat.le_refl _) (Nat.le_refl _) (fun r h' hq => ?_)
  obtain ⟨h1, ⟨q, g, hqa, hr, hg, rfl⟩, rfl, hD1⟩ := hq
  have hq0 : hN K N I R L E El Er q = none := by
    have := hD1 q (by rw [hup_eq]; simp)
    exact (if_neg hqa).symm.trans this
  have hK0 := hN_0.mp hq0
  refine ⟨q, g, hK0, hr, hg, ?_⟩
  funext p
  by_cases hp : p = q
  · subst hp
    rw [hor_l (hup_eq _ _ _), hN_a (t := 2) (by simp [va_up])]
    simp [va_up, arN]
  · by_cases hpa : p = a
    · subst hpa
      rw [hor_l (by rw [hup_ne hp]; exact hs1_a), hN_a (t := 2) (by simp [va_up, hp, hk])]
      simp [va_up, arN, hp, hNa]
    · rw [hor_r (by rw [hup_ne hp]; exact hs1_o hpa), if_neg hpa]
      unfold hN arN
      simp [va_up, hp]
theorem wp_callQ {G : Gt} {y y' : Mi} {B : Bt} {pc : Nat} {lv : List (Nat × Value)} {st rest av : List Value} {h : AHp} {k n d' w' r na k' n' : Nat} {ig : Instr} {Q' : ARes → AHp → Prop} (hd : decode (mB y) pc = .ok (ig, 3)) (hL : Link G y B pc st rest av y' h) (hc : mCal y' na) (hC : CallS G y' d' w' av h k' n' Q') (hr8 : (rest.map fun v => v.category).sum ≤ r) (hdep : d' + 1 ≤ Bd B ∧ r + (mL y' + 11) + w' ≤ Bw B) (kr : ∀ r h', Q' r h' → ∃ q, r = .inl (some (.ref q)) ∧ WP G y B (pc + 3) lv (.ref q :: rest) h' k n) : WP G y B pc lv st h (k + k') (n + n') := by
  refine wp_call hd hL hc hC hr8 hdep (fun v' h' hq => ?_) (fun x h' hq => ?_)
  · obtain ⟨q, e, kk⟩ := kr _ _ hq
    cases e
    exact kk
  · obtain ⟨q, e, kk⟩ := kr _ _ hq
    cases e
theorem kz_of {K : Nat → Nat} {q v p : Nat} (hv : v ≠ 0) (h : va_up K q v p = 0) : p ≠ q ∧ K p = 0 := by
  by_cases hp : p = q
  · subst hp
    rw [kat] at h
    exact absurd h hv
  · exact ⟨hp, by simpa [va_up, hp] using h⟩
set_option maxRecDepth 20000 in
theorem c_Drf_toMessage {G : Gt} {K N : Nat → Nat} {I : Nat → Nat → Int32} {R : Nat → Nat → Option Nat} {L : Nat → Nat → Int64} {E : Nat → Nat → Int32} {El : Nat → Nat → Int64} {Er : Nat → Nat → Option Nat} {d b da n na p : Nat} (hD : DF K I R L E El Er) (hd : K d = 4 + 1) (hb : K b = 20 + 2) (hda : K da = 20 + 1) (r21 : R 21 d = some b) (r22 : R 22 d = some da) (hnb : N b = 1600) (hnd : N da = 7) (i25 : I 25 d = nI n) (i23 : I 23 d = nI na) (i24 : I 24 d = nI p) (hn : n ≤ 1600) (hna : na ≤ 7) (hf : ∀ i, i < 1600 → fits .byte (.int (E b i)) = true) : CallS G m_Drf_toMessage 2 47 [.ref d] (hN K N I R L E El Er) (0 + 1 + 1 + 1) (0 + na + 5 + n) (fun r h' => ∃ (qt qm qa : Nat) (gt : Nat → Int32) (ga : Nat → Int64), K qt = 0 ∧ K qm = 0 ∧ K qa = 0 ∧ qm ≠ qt ∧ qa ≠ qt ∧ qa ≠ qm ∧ r = .inl (some (.ref qm)) ∧ (∀ i, i < n → gt i = E b i) ∧ (∀ i, i < na → ga i = El da i) ∧ h' = hN (va_up (va_up (va_up K qt (20 + 2)) qm (9 + 1)) qa (20 + 1)) (va_up (va_up N qt n) qa na) (u2 I 45 qm (nI p)) (u2r (u2r R 43 qm (some qt)) 44 qm (some qa)) L (va_up E qt gt) (va_up El qa ga) Er) := by
  refine CallS.of (Nat.le_of_ble_eq_true rfl) ?_
  refine wp_aload_n d_Drf_toMessage_0 rfl 0 rfl ?_
  refine wn_get_Drf d_Drf_toMessage_1 (hd) 0 (by decide) wF_Drf_9 rfl ?_
  refine wp_toVR (o := some b) (z := .ref b) (r21) rfl ?_
  refine wp_aload_n d_Drf_toMessage_4 rfl 0 rfl ?_
  refine wn_get_Drf d_Drf_toMessage_5 (hd) 4 (by decide) wF_Drf_19 rfl ?_
  refine wp_toI (z := (nI n)) (i25) ?_
  refine wp_callQ (k' := 1) (n' := n) (r := 0) d_Drf_toMessage_8 (link_S (av := [.ref b, .int (nI n)]) (rest := []) d_Drf_toMessage_8 cal_Arrays_copyOf wM_Drf_39 rfl) cal_Arrays_copyOf (cN_Arrays_copyOfT hb hnb hf hn (by decide)) (Nat.le_of_ble_eq_true rfl) ⟨Nat.le_of_ble_eq_true rfl, Nat.le_of_ble_eq_true rfl⟩ (fun r8 h8 q8 => ?_)
  obtain ⟨qt, gt, hqt, rfl, hgt, rfl⟩ := q8
  refine ⟨qt, rfl, ?_⟩
  refine wp_astore_n (lv' := [(1, .ref qt), (0, .ref d)]) d_Drf_toMessage_11 rfl (by decide) rfl ?_
  refine wn_new_Msg d_Drf_toMessage_12 wC_Drf_45 (DF.pE1 (DF.pK hD (by decide)) (knzA (kat _ _ _))) (fun q1 hq1 => ?_)
  refine wp_dup d_Drf_toMessage_15 rfl ?_
  refine wp_aload_n d_Drf_toMessage_16 rfl 0 rfl ?_
  refine wp_aload_n d_Drf_toMessage_17 rfl 1 rfl ?_
  refine wn_get_Drf d_Drf_toMessage_18 (kup hq1 (kup hqt (hd))) 1 (by decide) wF_Drf_15 rfl ?_
  refine wp_toVR (o := some da) (z := .ref da) (r22) rfl ?_
  refine wp_aload_n d_Drf_toMessage_21 rfl 1 rfl ?_
  refine wn_get_Drf d_Drf_toMessage_22 (kup hq1 (kup hqt (hd))) 2 (by decide) wF_Drf_23 rfl ?_
  refine wp_toI (z := (nI na)) (i23) ?_
  refine wp_callQ (k' := 1) (n' := na) (r := 3) d_Drf_toMessage_25 (link_S (av := [.ref da, .int (nI na)]) (rest := [.ref qt, .ref q1, .ref q1]) d_Drf_toMessage_25 cal_Arrays_copyOf1 wM_Drf_47 rfl) cal_Arrays_copyOf1 (cN_Arrays_copyOf1 (kupA hq1 (kupA hqt (hda))) (len := 7) (by rw [show va_up N qt n da = N da by simp [va_up, kne hqt (show K da ≠ 0 by omega)]]; exact hnd) hna (by decide)) (Nat.le_of_ble_eq_true rfl) ⟨Nat.le_of_ble_eq_true rfl, Nat.le_of_ble_eq_true rfl⟩ (fun r25 h25 q25 => ?_)
  obtain ⟨qa, ga, hqa, rfl, hga, rfl⟩ := q25
  refine ⟨qa, rfl, ?_⟩
  refine wp_aload_n d_Drf_toMessage_28 rfl 1 rfl ?_
  refine wn_get_Drf d_Drf_toMessage_29 (kup hqa (kup hq1 (kup hqt (hd)))) 3 (by decide) wF_Drf_50 rfl ?_
  refine wp_toI (z := (nI p)) (i24) ?_
  refine wp_callU (r := 1) d_Drf_toMessage_32 (link_I (as := [.ref qt, .ref qa, .int (nI p)]) (rest := [.ref q1]) d_Drf_toMessage_32 cal_Msg_init rfl wM_Drf_53 rfl) cal_Msg_init (c_Msg_init (kup hqa (kat _ _ _))) (Nat.le_of_ble_eq_true rfl) ⟨Nat.le_of_ble_eq_true rfl, Nat.le_of_ble_eq_true rfl⟩ ?_
  exact wp_aret d_Drf_toMessage_35 rfl (Or.inl ⟨_, rfl⟩) (Or.inr ⟨_, rfl⟩) (by obtain ⟨m1, m2⟩ := kz_of (by decide) hq1; obtain ⟨a1, a2⟩ := kz_of (by decide) hqa; obtain ⟨a3, a4⟩ := kz_of (by decide) a2; exact ⟨qt, q1, qa, gt, ga, hqt, m2, a4, m1, a3, a1, rfl, hgt, hga, rfl⟩)
set_option maxRecDepth 20000 in
theorem c_Msg_allAddresses {G : Gt} {K N : Nat → Nat} {I : Nat → Nat → Int32} {R : Nat → Nat → Option Nat} {L : Nat → Nat → Int64} {E : Nat → Nat → Int32} {El : Nat → Nat → Int64} {Er : Nat → Nat → Option Nat} {q a na : Nat} (hq : K q = 9 + 1) (ha : K a = 20 + 1) (r44 : R 44 q = some a) (hn : N a = na) (h7 : na ≤ 7) : CallR G m_Msg_allAddresses 0 0 [.ref q] (hN K N I R L E El Er) 0 0 (some (.int (nI (2 ^ na - 1)))) (hN K N I R L E El Er) := by
  have hp2 : 1 ≤ 2 ^ na ∧ 2 ^ na ≤ 2 ^ 7 := ⟨Nat.pow_pos (by decide), Nat.pow_le_pow_right (by decide) h7⟩
  refine CallS.of (Nat.le_of_ble_eq_true rfl) ?_
  refine wp_iconst (v := nI 1) d_Msg_allAddresses_0 (by decide) ?_
  refine wp_aload_n d_Msg_allAddresses_1 rfl 0 rfl ?_
  refine wn_get_Msg d_Msg_allAddresses_2 (hq) 1 (by decide) wF_Msg_15 rfl ?_
  refine wp_toVR (o := some a) (z := .ref a) (r44) rfl ?_
  refine wn_len (len := na) d_Msg_allAddresses_5 (ha) rfl (hn) ?_
  refine wp_ishlN d_Msg_allAddresses_6 (by omega) (by omega) ?_
  refine wp_iconst (v := nI 1) d_Msg_allAddresses_7 (by decide) ?_
  refine wp_isubN d_Msg_allAddresses_8 (by omega) ?_
  exact wp_iret d_Msg_allAddresses_9 rfl ⟨resI (congrArg nI (by omega)), rfl⟩
end Cls29
