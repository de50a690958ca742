section Cls13
theorem n_Net_channel {G : Gt} {K N : Nat → Nat} {I : Nat → Nat → Int32} {R : Nat → Nat → Option Nat} {L : Nat → Nat → Int64} {E : Nat → Nat → Int32} {El : Nat → Nat → Int64} {Er : Nat → Nat → Option Nat} {Γ : Gm} {ρ : Nat → Nat} {s : Sa} (hR : RepN Γ ρ K N I R L E El Er s) (l c w : Int32) : CallN G m_Net_channel 7 95 [.ref (Γ 0 0), .int l, .int c, .int w] (hN K N I R L E El Er) 1 6 (stChannel s l c w) false (Γ 0 0) := by
  unfold stChannel chOK
  cases hx : hasB (lnB s) l with
  | false => exact CallN.ofT (c_Net_channelLX hR hx) (by decide) (by decide) (by decide) (by decide) rfl hR.okT
  | true =>
    obtain ⟨j, a, b, v, hl, rfl, hv⟩ := hasB_o hx
    cases hy : inZ c (nI 0) (nI 1) with
    | false => exact CallN.ofT (c_Net_channelCX hR hl hv hy) (by decide) (by decide) (by decide) (by decide) rfl hR.okT
    | true =>
      obtain ⟨i, hi, rfl⟩ := inZ_of (by decide) hy
      rw [Bool.and_self, if_pos rfl, nN_nI (by omega), nN_nI (by omega)]
      have hc : i < 2 := by omega
      dsimp only
      cases hw : inZ w (nI 0) (nI 4) with
      | true =>
        obtain ⟨p, hp, rfl⟩ := inZ_of (by decide) hw
        rw [if_pos rfl, nN_nI (by omega)]
        exact CallN.ofR (c_Net_channelQ hR hl hv hc (show p < 5 by omega)) (by decide) (by decide) (by decide) (by decide) rfl hR.ok
      | false =>
        rw [if_neg (by decide)]
        by_cases h5 : w = nI 5
        · subst h5
          rw [if_pos rfl]
          exact CallN.ofR (c_Net_channel5 hR hl hv hc) (by decide) (by decide) (by decide) (by decide) (by rw [kpF_n]; rfl) hR.ok
        · rw [if_neg h5]
          by_cases h6 : w = nI 6
          · subst h6
            rw [if_pos rfl]
            exact CallN.ofR (c_Net_channel6 hR hl hv hc) (by decide) (by decide) (by decide) (by decide) rfl hR.ok
          · rw [if_neg h6]
            by_cases h7 : w = nI 7
            · subst h7
              rw [if_pos rfl]
              exact CallN.ofR (c_Net_channel7 hR hl hv hc) (by decide) (by decide) (by decide) (by decide) rfl hR.ok
            · rw [if_neg h7]
              by_cases h8 : w = nI 8
              · subst h8
                rw [if_pos rfl]
                exact CallN.ofR (c_Net_channel8 hR hl hv hc) (by decide) (by decide) (by decide) (by decide) rfl hR.ok
              · rw [if_neg h8]
                refine CallN.ofT (c_Net_channelWX hR hl hv hc ?_) (by decide) (by decide) (by decide) (by decide) rfl hR.okT
                cases hz : inZ w (nI 0) (nI 8) with
                | false => rfl
                | true =>
                  obtain ⟨p, hp, rfl⟩ := inZ_of (by decide) hz
                  rw [inZ_nI (by omega) (by decide) (by decide), decide_eq_false_iff_not] at hw
                  rcases (show p = 5 ∨ p = 6 ∨ p = 7 ∨ p = 8 by omega) with rfl | rfl | rfl | rfl
                  · exact absurd rfl h5
                  · exact absurd rfl h6
                  · exact absurd rfl h7
                  · exact absurd rfl h8
theorem and_pw (x k : Nat) : x &&& 1 * 2 ^ k = 0 ↔ x.testBit k = false := by
  rw [Nat.one_mul]
  constructor
  · intro h
    have h2 := congrArg (fun z => Nat.testBit z k) h
    simpa [Nat.testBit_and, Nat.testBit_two_pow_self] using h2
  · intro h
    apply Nat.eq_of_testBit_eq
    intro i
    rw [Nat.testBit_and, Nat.testBit_two_pow, Nat.zero_testBit]
    by_cases hi : k = i
    · subst hi
      rw [h]
      rfl
    · simp [hi]
set_option maxRecDepth 20000 in
theorem c_Msg_hasArrived {G : Gt} {K N : Nat → Nat} {I : Nat → Nat → Int32} {R : Nat → Nat → Option Nat} {L : Nat → Nat → Int64} {E : Nat → Nat → Int32} {El : Nat → Nat → Int64} {Er : Nat → Nat → Option Nat} {q x k : Nat} (hq : K q = 9 + 1) (hx : I 46 q = nI x) (hx2 : x < 2 ^ 7) (hk : k < 7) : CallR G m_Msg_hasArrived 0 0 [.ref q, .int (nI k)] (hN K N I R L E El Er) 0 0 (some (.int (bI (x.testBit k)))) (hN K N I R L E El Er) := by
  have h2k : 2 ^ k ≤ 2 ^ 6 := Nat.pow_le_pow_right (by decide) (by omega)
  have han := Nat.and_le_left (n := x) (m := 1 * 2 ^ k)
  refine CallS.of (Nat.le_of_ble_eq_true rfl) ?_
  refine wp_aload_n d_Msg_hasArrived_0 rfl 0 rfl ?_
  refine wn_get_Msg d_Msg_hasArrived_1 (hq) 3 (by decide) wF_Msg_23 rfl ?_
  refine wp_toI (z := (nI x)) (hx) ?_
  refine wp_iconst (v := nI 1) d_Msg_hasArrived_4 (by decide) ?_
  refine wp_iload_n d_Msg_hasArrived_5 rfl 1 rfl ?_
  refine wp_ishlN d_Msg_hasArrived_6 (by omega) (by omega) ?_
  refine wp_iandN d_Msg_hasArrived_7 ?_
  refine wp_if_eqN (tgt := 15) d_Msg_hasArrived_8 (by decide) (by omega) (fun c8 => ?_) (fun c8 => ?_)
  · refine wp_iconst (v := nI 0) d_Msg_hasArrived_15 (by decide) ?_
    exact wp_zret (ty := .boolean) d_Msg_hasArrived_16 rfl rfl ⟨resI (bI_zero ((and_pw x k).mp c8)), rfl⟩
  · refine wp_iconst (v := nI 1) d_Msg_hasArrived_11 (by decide) ?_
    refine wp_goto (tgt := 16) d_Msg_hasArrived_12 (by decide) ?_
    exact wp_zret (ty := .boolean) d_Msg_hasArrived_16 rfl rfl ⟨resI (bI_one (by rcases Bool.eq_false_or_eq_true (x.testBit k) with h | h; (exact h); (exact absurd ((and_pw x k).mpr h) (by omega)))), rfl⟩
set_option maxRecDepth 20000 in
theorem c_Net_arrived1 {G : Gt} {K N : Nat → Nat} {I : Nat → Nat → Int32} {R : Nat → Nat → Option Nat} {L : Nat → Nat → Int64} {E : Nat → Nat → Int32} {El : Nat → Nat → Int64} {Er : Nat → Nat → Option Nat} {Γ : Gm} {ρ : Nat → Nat} {s : Sa} (hR : RepN Γ ρ K N I R L E El Er s) {j : Nat} {m : Nat × List (List Nat) × Nat × Nat} (hm : (sMs s)[j]? = some m) {k : Nat} (hb7 : sCm s (j + 1) < 2 ^ 7) (hms : (sMs s).length ≤ 200) (hk : k < m.2.1.length) (hk7 : m.2.1.length ≤ 7) : CallR G m_Net_arrived 1 13 [.ref (Γ 0 0), .int (nI (j + 1)), .int (nI k)] (hN K N I R L E El Er) 0 0 (some (.int (bI ((sCm s (j + 1)).testBit k)))) (hN K N I R L E El Er) := by
  have hj := (List.getElem?_eq_some_iff.mp hm).1
  refine CallS.of (Nat.le_of_ble_eq_true rfl) ?_
  refine wp_iload_n d_Net_arrived_0 rfl 1 rfl ?_
  refine wp_iconst (v := nI 1) d_Net_arrived_1 (by decide) ?_
  refine wp_ltN (tgt := 13) d_Net_arrived_2 (by decide) (by omega) (by omega) (fun c2 => ?_) (fun c2 => ?_)
  · omega
  · refine wp_iload_n d_Net_arrived_5 rfl 1 rfl ?_
    refine wp_aload_n d_Net_arrived_6 rfl 0 rfl ?_
    refine wn_get_Net d_Net_arrived_7 (hR.nt.1) 5 (by decide) wF_Net_103 rfl ?_
    refine wp_toI (z := (nI ((sMs s).length))) (hR.nt.2.2.2.2.2.2.1) ?_
    refine wp_leN (tgt := 23) d_Net_arrived_10 (by decide) (by omega) (by omega) (fun c10 => ?_) (fun c10 => ?_)
    · refine wp_aload_n d_Net_arrived_23 rfl 0 rfl ?_
      refine wn_get_Net d_Net_arrived_24 (hR.nt.1) 3 (by decide) wF_Net_30 rfl ?_
      refine wp_toVR (o := some (Γ 0 6)) (z := .ref (Γ 0 6)) (hR.nt.2.2.2.2.1) rfl ?_
      refine wp_iload_n d_Net_arrived_27 rfl 1 rfl ?_
      refine wp_iconst (v := nI 1) d_Net_arrived_28 (by decide) ?_
      refine wp_isubN d_Net_arrived_29 (by omega) ?_
      refine wp_toI (z := (nI j)) (congrArg nI (by omega)) ?_
      refine wn_ald (x := some (Γ 14 (j + 1))) d_Net_arrived_30 (hR.nt.2.2.2.2.2.2.2.2.2.2.2.2.1) rfl (by decide) (by rw [hR.nt.2.2.2.2.2.2.2.2.2.2.2.2.2.1]; omega) (by rw [hR.nt.2.2.2.2.2.2.2.2.2.2.2.2.2.1]; omega) ((hR.mg j _ hm).1) ?_
      refine wp_astore_n (lv' := [(3, .ref (Γ 14 (j + 1))), (0, .ref (Γ 0 0)), (1, .int (nI (j + 1))), (2, .int (nI k))]) d_Net_arrived_31 rfl (by decide) rfl ?_
      refine wp_aload_n d_Net_arrived_32 rfl 0 rfl ?_
      refine wp_ifnull d_Net_arrived_33 ?_
      refine wp_iload_n d_Net_arrived_36 rfl 3 rfl ?_
      refine wp_if_ltN (tgt := 49) d_Net_arrived_37 (by decide) (by omega) ?_
      refine wp_iload_n d_Net_arrived_40 rfl 3 rfl ?_
      refine wp_aload_n d_Net_arrived_41 rfl 0 rfl ?_
      refine wn_get_Msg d_Net_arrived_42 ((hR.mg j _ hm).2.1) 1 (by decide) wF_Net_223 rfl ?_
      refine wp_toVR (o := some (Γ 16 (j + 1))) (z := .ref (Γ 16 (j + 1))) ((hR.mg j _ hm).2.2.2.2.1) rfl ?_
      refine wn_len (len := m.2.1.length) d_Net_arrived_45 ((hR.mg j _ hm).2.2.2.2.2.2.2.2.2.2.2.1) rfl ((hR.mg j _ hm).2.2.2.2.2.2.2.2.2.2.2.2.1) ?_
      refine wp_ltN (tgt := 59) d_Net_arrived_46 (by decide) (by omega) (by omega) (fun c46 => ?_) (fun c46 => ?_)
      · refine wp_aload_n d_Net_arrived_59 rfl 0 rfl ?_
        refine wp_iload_n d_Net_arrived_60 rfl 3 rfl ?_
        refine wp_callV (r := 0) d_Net_arrived_61 (link_V (as := [.int (nI k)]) (rest := []) (r := (R_Msg, T_Msg, 5)) d_Net_arrived_61 cal_Msg_hasArrived wM_Net_229 rfl (hN_o ((hR.mg j _ hm).2.1) (by decide)) rfl) cal_Msg_hasArrived (c_Msg_hasArrived (hR.mg j _ hm).2.1 (hR.mg j _ hm).2.2.2.2.2.2.1 hb7 (by omega)) (Nat.le_of_ble_eq_true rfl) ⟨Nat.le_of_ble_eq_true rfl, Nat.le_of_ble_eq_true rfl⟩ ?_
        exact wp_zret (ty := .boolean) d_Net_arrived_64 rfl (narB' _) ⟨rfl, rfl⟩
      · omega
    · omega
theorem inZ_ub {z : Int32} {n : Nat} (h0 : ¬ z < 0) (h1 : z < nI n) (hn : n < 2 ^ 31) : inZ z (nI 0) (nI (n - 1)) = true := by
  obtain ⟨i, hi, rfl⟩ := nI_of h0
  have := (nI_ltI hi hn).mp h1
  rw [inZ_nI hi (by decide) (by omega)]
  exact decide_eq_true ⟨by omega, by omega⟩
set_option maxRecDepth 20000 in
theorem c_Net_arrivedKX {G : Gt} {K N : Nat → Nat} {I : Nat → Nat → Int32} {R : Nat → Nat → Option Nat} {L : Nat → Nat → Int64} {E : Nat → Nat → Int32} {El : Nat → Nat → Int64} {Er : Nat → Nat → Option Nat} {Γ : Gm} {ρ : Nat → Nat} {s : Sa} (hR : RepN Γ ρ K N I R L E El Er s) {j : Nat} {m : Nat × List (List Nat) × Nat × Nat} (hm : (sMs s)[j]? = some m) {z : Int32} (hms : (sMs s).length ≤ 200) (hk7 : m.2.1.length ≤ 7) (hz : inZ z (nI 0) (nI (m.2.1.length - 1)) = false) : CallT G m_Net_arrived 6 82 [.ref (Γ 0 0), .int (nI (j + 1)), .int z] (hN K N I R L E El Er) 1 6 0 (fun h' => h' = (hN K N I R L E El Er)) := by
  have hj := (List.getElem?_eq_some_iff.mp hm).1
  refine CallS.of (Nat.le_of_ble_eq_true rfl) ?_
  refine wp_iload_n d_Net_arrived_0 rfl 1 rfl ?_
  refine wp_iconst (v := nI 1) d_Net_arrived_1 (by decide) ?_
  refine wp_ltN (tgt := 13) d_Net_arrived_2 (by decide) (by omega) (by omega) (fun c2 => ?_) (fun c2 => ?_)
  · omega
  · refine wp_iload_n d_Net_arrived_5 rfl 1 rfl ?_
    refine wp_aload_n d_Net_arrived_6 rfl 0 rfl ?_
    refine wn_get_Net d_Net_arrived_7 (hR.nt.1) 5 (by decide) wF_Net_103 rfl ?_
    refine wp_toI (z := (nI ((sMs s).length))) (hR.nt.2.2.2.2.2.2.1) ?_
    refine wp_leN (tgt := 23) d_Net_arrived_10 (by decide) (by omega) (by omega) (fun c10 => ?_) (fun c10 => ?_)
    · refine wp_aload_n d_Net_arrived_23 rfl 0 rfl ?_
      refine wn_get_Net d_Net_arrived_24 (hR.nt.1) 3 (by decide) wF_Net_30 rfl ?_
      refine wp_toVR (o := some (Γ 0 6)) (z := .ref (Γ 0 6)) (hR.nt.2.2.2.2.1) rfl ?_
      refine wp_iload_n d_Net_arrived_27 rfl 1 rfl ?_
      refine wp_iconst (v := nI 1) d_Net_arrived_28 (by decide) ?_
      refine wp_isubN d_Net_arrived_29 (by omega) ?_
      refine wp_toI (z := (nI j)) (congrArg nI (by omega)) ?_
      refine wn_ald (x := some (Γ 14 (j + 1))) d_Net_arrived_30 (hR.nt.2.2.2.2.2.2.2.2.2.2.2.2.1) rfl (by decide) (by rw [hR.nt.2.2.2.2.2.2.2.2.2.2.2.2.2.1]; omega) (by rw [hR.nt.2.2.2.2.2.2.2.2.2.2.2.2.2.1]; omega) ((hR.mg j _ hm).1) ?_
      refine wp_astore_n (lv' := [(3, .ref (Γ 14 (j + 1))), (0, .ref (Γ 0 0)), (1, .int (nI (j + 1))), (2, .int z)]) d_Net_arrived_31 rfl (by decide) rfl ?_
      refine wp_aload_n d_Net_arrived_32 rfl 0 rfl ?_
      refine wp_ifnull d_Net_arrived_33 ?_
      refine wp_iload_n d_Net_arrived_36 rfl 3 rfl ?_
      refine wp_if_lt (tgt := 49) d_Net_arrived_37 (by decide) (fun c37 => ?_) (fun c37 => ?_)
      · exact wp_throwS (x := 0) d_Net_arrived_49 d_Net_arrived_52 d_Net_arrived_53 d_Net_arrived_55 d_Net_arrived_58 th_Net_47 wE_Net_43 wS_Net_227 rfl ⟨Nat.le_of_ble_eq_true rfl, Nat.le_of_ble_eq_true rfl⟩ ⟨rfl, rfl⟩
      · refine wp_iload_n d_Net_arrived_40 rfl 3 rfl ?_
        refine wp_aload_n d_Net_arrived_41 rfl 0 rfl ?_
        refine wn_get_Msg d_Net_arrived_42 ((hR.mg j _ hm).2.1) 1 (by decide) wF_Net_223 rfl ?_
        refine wp_toVR (o := some (Γ 16 (j + 1))) (z := .ref (Γ 16 (j + 1))) ((hR.mg j _ hm).2.2.2.2.1) rfl ?_
        refine wn_len (len := m.2.1.length) d_Net_arrived_45 ((hR.mg j _ hm).2.2.2.2.2.2.2.2.2.2.2.1) rfl ((hR.mg j _ hm).2.2.2.2.2.2.2.2.2.2.2.2.1) ?_
        refine wp_icmp_lt (tgt := 59) d_Net_arrived_46 (by decide) (fun c46 => ?_) (fun c46 => ?_)
        · exact absurd hz (by rw [inZ_ub c37 c46 (by omega)]; decide)
        · exact wp_throwS (x := 0) d_Net_arrived_49 d_Net_arrived_52 d_Net_arrived_53 d_Net_arrived_55 d_Net_arrived_58 th_Net_47 wE_Net_43 wS_Net_227 rfl ⟨Nat.le_of_ble_eq_true rfl, Nat.le_of_ble_eq_true rfl⟩ ⟨rfl, rfl⟩
    · omega
set_option maxRecDepth 20000 in
theorem c_Net_arrivedMX {G : Gt} {K N : Nat → Nat} {I : Nat → Nat → Int32} {R : Nat → Nat → Option Nat} {L : Nat → Nat → Int64} {E : Nat → Nat → Int32} {El : Nat → Nat → Int64} {Er : Nat → Nat → Option Nat} {Γ : Gm} {ρ : Nat → Nat} {s : Sa} (hR : RepN Γ ρ K N I R L E El Er s) {x z : Int32} (hms : (sMs s).length ≤ 200) (hx : inZ x (nI 1) (nI (sMs s).length) = false) : CallT G m_Net_arrived 6 82 [.ref (Γ 0 0), .int x, .int z] (hN K N I R L E El Er) 1 6 0 (fun h' => h' = (hN K N I R L E El Er)) := by
  refine CallS.of (Nat.le_of_ble_eq_true rfl) ?_
  refine wp_iload_n d_Net_arrived_0 rfl 1 rfl ?_
  refine wp_iconst (v := nI 1) d_Net_arrived_1 (by decide) ?_
  refine wp_icmp_lt (tgt := 13) d_Net_arrived_2 (by decide) (fun c2 => ?_) (fun c2 => ?_)
  · exact wp_throwS (x := 0) d_Net_arrived_13 d_Net_arrived_16 d_Net_arrived_17 d_Net_arrived_19 d_Net_arrived_22 th_Net_47 wE_Net_43 wS_Net_221 rfl ⟨Nat.le_of_ble_eq_true rfl, Nat.le_of_ble_eq_true rfl⟩ ⟨rfl, rfl⟩
  · refine wp_iload_n d_Net_arrived_5 rfl 1 rfl ?_
    refine wp_aload_n d_Net_arrived_6 rfl 0 rfl ?_
    refine wn_get_Net d_Net_arrived_7 (hR.nt.1) 5 (by decide) wF_Net_103 rfl ?_
    refine wp_toI (z := (nI ((sMs s).length))) (hR.nt.2.2.2.2.2.2.1) ?_
    refine wp_icmp_le (tgt := 23) d_Net_arrived_10 (by decide) (fun c10 => ?_) (fun c10 => ?_)
    · exact absurd hx (by rw [inZ_t c2 (Int32.not_lt.mpr c10)]; decide)
    · exact wp_throwS (x := 0) d_Net_arrived_13 d_Net_arrived_16 d_Net_arrived_17 d_Net_arrived_19 d_Net_arrived_22 th_Net_47 wE_Net_43 wS_Net_221 rfl ⟨Nat.le_of_ble_eq_true rfl, Nat.le_of_ble_eq_true rfl⟩ ⟨rfl, rfl⟩
theorem n_Net_arrived {G : Gt} {K N : Nat → Nat} {I : Nat → Nat → Int32} {R : Nat → Nat → Option Nat} {L : Nat → Nat → Int64} {E : Nat → Nat → Int32} {El : Nat → Nat → Int64} {Er : Nat → Nat → Option Nat} {Γ : Gm} {ρ : Nat → Nat} {s : Sa} (hR : RepN Γ ρ K N I R L E El Er s) {n0 : Nat} (hV : Inv n0 s) (m k : Int32) : CallN G m_Net_arrived 6 82 [.ref (Γ 0 0), .int m, .int k] (hN K N I R L E El Er) 1 6 (stArrived s m k) false (Γ 0 0) := by
  have hms : (sMs s).length ≤ 200 := hV.2.1.2.2.2.2.2.2.1
  cases hm : inZ m (nI 1) (nI (sMs s).length) with
  | false =>
    rw [show stArrived s m k = (1, 0, s) by
      unfold stArrived
      rw [if_neg]
      intro q
      obtain ⟨j, hj1, hj2, rfl⟩ := nN_pos q.1
      rw [inZ_nI hj2 (by decide) (by omega)] at hm
      rw [nN_nI hj2] at q
      exact absurd hm (by simp; omega)]
    exact CallN.ofT (c_Net_arrivedMX hR hms hm) (by decide) (by decide) (by decide) (by decide) rfl hR.okT
  | true =>
    obtain ⟨i, hj1, hj2, rfl⟩ := inZ_w (by decide) (by omega) hm
    obtain ⟨j, rfl⟩ : ∃ j, i = j + 1 := ⟨i - 1, by omega⟩
    obtain ⟨r, hr⟩ := get_of (l := sMs s) (i := j) (by omega)
    have hok := hV.ms (List.mem_of_getElem? hr)
    have h0 := hok.2.1
    have h00 := hok.2.2.1
    have hcnt : cntOf s (j + 1) = r.2.1.length := by unfold cntOf; rw [show j + 1 - 1 = j by omega, List.getD_eq_getElem?_getD, hr]; rfl
    have hcm := hV.2.2.1.1 (j + 1)
    rw [hcnt] at hcm
    have hcm2 : sCm s (j + 1) < 2 ^ 7 := Nat.lt_of_lt_of_le hcm (Nat.pow_le_pow_right (by decide) h00)
    have hpos : (0 : Int32) < nI (j + 1) := by rw [← nI_0]; exact (nI_ltI (by decide) (by omega)).mpr (by omega)
    cases hk : inZ k (nI 0) (nI (r.2.1.length - 1)) with
    | false =>
      rw [show stArrived s (nI (j + 1)) k = (1, 0, s) by
        unfold stArrived
        rw [if_neg]
        intro q
        obtain ⟨i, hi2, rfl⟩ := nI_of q.2.2.1
        have q4 := q.2.2.2
        rw [nN_nI hi2, nN_nI (by omega), hcnt] at q4
        rw [inZ_nI hi2 (by decide) (by omega)] at hk
        exact absurd hk (by simp; omega)]
      exact CallN.ofT (c_Net_arrivedKX hR hr hms h00 hk) (by decide) (by decide) (by decide) (by decide) rfl hR.okT
    | true =>
      obtain ⟨i, _, hi2, rfl⟩ := inZ_w (by decide) (by omega) hk
      rw [show stArrived s (nI (j + 1)) (nI i) = (0, bI ((sCm s (j + 1)).testBit i), s) by
        unfold stArrived
        rw [nN_nI (by omega), nN_nI (by omega), if_pos ⟨hpos, hj2, nI_pos (by omega), by rw [hcnt]; omega⟩]]
      exact CallN.ofR (c_Net_arrived1 hR hr hcm2 hms (by omega) h00) (by decide) (by decide) (by decide) (by decide) rfl hR.ok
set_option maxRecDepth 20000 in
theorem c_Swt_messageOnDesk1 {G : Gt} {K N : Nat → Nat} {I : Nat → Nat → Int32} {R : Nat → Nat → Option Nat} {L : Nat → Nat → Int64} {E : Nat → Nat → Int32} {El : Nat → Nat → Int64} {Er : Nat → Nat → Option Nat} {Γ : Gm} {ρ : Nat → Nat} {s : Sa} (hR : RepN Γ ρ K N I R L E El Er s) {x k m : Nat} (hx : x < 6) (hm : (sDk s x)[k]? = some m) (hd : (sDk s x).length ≤ 200) : CallR G m_Swt_messageOnDesk 0 0 [.ref (Γ 1 x), .int (nI k)] (hN K N I R L E El Er) 0 0 (some (.ref (Γ 14 m))) (hN K N I R L E El Er) := by
  have hk := (List.getElem?_eq_some_iff.mp hm).1
  refine CallS.of (Nat.le_of_ble_eq_true rfl) ?_
  refine wp_iload_n d_Swt_messageOnDesk_0 rfl 1 rfl ?_
  refine wp_if_ltN (tgt := 28) d_Swt_messageOnDesk_1 (by decide) (by omega) ?_
  refine wp_iload_n d_Swt_messageOnDesk_4 rfl 1 rfl ?_
  refine wp_aload_n d_Swt_messageOnDesk_5 rfl 0 rfl ?_
  refine wn_get_Swt d_Swt_messageOnDesk_6 ((hR.sw x hx).2.1) 4 (by decide) wF_Swt_58 rfl ?_
  refine wp_toI (z := (nI ((sDk s x).length))) ((hR.sw x hx).2.2.2.2.2.2.2.2.2.2.2.2.2.1) ?_
  refine wp_geN (tgt := 28) d_Swt_messageOnDesk_9 (by decide) (by omega) (by omega) (fun c9 => ?_) (fun c9 => ?_)
  · omega
  · refine wp_iload_n d_Swt_messageOnDesk_12 rfl 1 rfl ?_
    refine wp_sipush (v := nI 200) d_Swt_messageOnDesk_13 (by decide) ?_
    refine wp_geN (tgt := 28) d_Swt_messageOnDesk_16 (by decide) (by omega) (by omega) (fun c16 => ?_) (fun c16 => ?_)
    · omega
    · refine wp_aload_n d_Swt_messageOnDesk_19 rfl 0 rfl ?_
      refine wn_get_Swt d_Swt_messageOnDesk_20 ((hR.sw x hx).2.1) 1 (by decide) wF_Swt_19 rfl ?_
      refine wp_toVR (o := some (Γ 3 x)) (z := .ref (Γ 3 x)) ((hR.sw x hx).2.2.2.2.1) rfl ?_
      refine wp_iload_n d_Swt_messageOnDesk_23 rfl 1 rfl ?_
      refine wn_ald (x := some (Γ 14 m)) d_Swt_messageOnDesk_24 ((hR.sw x hx).2.2.2.2.2.2.2.2.2.1) rfl (by decide) (by rw [(hR.sw x hx).2.2.2.2.2.2.2.2.2.2.1]; omega) (by rw [(hR.sw x hx).2.2.2.2.2.2.2.2.2.2.1]; omega) (hR.dk x hx k m hm) ?_
      refine wp_goto (tgt := 29) d_Swt_messageOnDesk_25 (by decide) ?_
      exact wp_aret d_Swt_messageOnDesk_29 rfl (Or.inl ⟨_, rfl⟩) (Or.inr ⟨_, rfl⟩) ⟨rfl, rfl⟩
set_option maxRecDepth 20000 in
theorem c_Swt_messageOnDesk0 {G : Gt} {K N : Nat → Nat} {I : Nat → Nat → Int32} {R : Nat → Nat → Option Nat} {L : Nat → Nat → Int64} {E : Nat → Nat → Int32} {El : Nat → Nat → Int64} {Er : Nat → Nat → Option Nat} {Γ : Gm} {ρ : Nat → Nat} {s : Sa} (hR : RepN Γ ρ K N I R L E El Er s) {x : Nat} {z : Int32} (hx : x < 6) (hd : (sDk s x).length ≤ 200) (hz : z < 0 ∨ ¬ z < nI (sDk s x).length) : CallR G m_Swt_messageOnDesk 0 0 [.ref (Γ 1 x), .int z] (hN K N I R L E El Er) 0 0 (some (.null)) (hN K N I R L E El Er) := by
  refine CallS.of (Nat.le_of_ble_eq_true rfl) ?_
  refine wp_iload_n d_Swt_messageOnDesk_0 rfl 1 rfl ?_
  refine wp_if_lt (tgt := 28) d_Swt_messageOnDesk_1 (by decide) (fun c1 => ?_) (fun c1 => ?_)
  · refine wp_null d_Swt_messageOnDesk_28 ?_
    exact wp_aret d_Swt_messageOnDesk_29 rfl (Or.inl ⟨_, rfl⟩) (Or.inl rfl) ⟨rfl, rfl⟩
  · refine wp_iload_n d_Swt_messageOnDesk_4 rfl 1 rfl ?_
    refine wp_aload_n d_Swt_messageOnDesk_5 rfl 0 rfl ?_
    refine wn_get_Swt d_Swt_messageOnDesk_6 ((hR.sw x hx).2.1) 4 (by decide) wF_Swt_58 rfl ?_
    refine wp_toI (z := (nI ((sDk s x).length))) ((hR.sw x hx).2.2.2.2.2.2.2.2.2.2.2.2.2.1) ?_
    refine wp_icmp_ge (tgt := 28) d_Swt_messageOnDesk_9 (by decide) (fun c9 => ?_) (fun c9 => ?_)
    · refine wp_null d_Swt_messageOnDesk_28 ?_
      exact wp_aret d_Swt_messageOnDesk_29 rfl (Or.inl ⟨_, rfl⟩) (Or.inl rfl) ⟨rfl, rfl⟩
    · exact absurd (Int32.not_le.mp c9) (hz.resolve_left c1)
set_option maxRecDepth 20000 in
theorem c_Msg_byteAt1 {G : Gt} {K N : Nat → Nat} {I : Nat → Nat → Int32} {R : Nat → Nat → Option Nat} {L : Nat → Nat → Int64} {E : Nat → Nat → Int32} {El : Nat → Nat → Int64} {Er : Nat → Nat → Option Nat} {Γ : Gm} {ρ : Nat → Nat} {s : Sa} (hR : RepN Γ ρ K N I R L E El Er s) {j : Nat} {m : Nat × List (List Nat) × Nat × Nat} (hm : (sMs s)[j]? = some m) {p : Nat} (hp : p < m.2.2.1) (hl : m.2.2.1 ≤ 1600) : CallR G m_Msg_byteAt 0 0 [.ref (Γ 14 (j + 1)), .int (nI p)] (hN K N I R L E El Er) 0 0 (some (.int (nI (textAt s m p)))) (hN K N I R L E El Er) := by
  refine CallS.of (Nat.le_of_ble_eq_true rfl) ?_
  refine wp_iload_n d_Msg_byteAt_0 rfl 1 rfl ?_
  refine wp_if_ltN (tgt := 26) d_Msg_byteAt_1 (by decide) (by omega) ?_
  refine wp_iload_n d_Msg_byteAt_4 rfl 1 rfl ?_
  refine wp_aload_n d_Msg_byteAt_5 rfl 0 rfl ?_
  refine wn_get_Msg d_Msg_byteAt_6 ((hR.mg j _ hm).2.1) 0 (by decide) wF_Msg_9 rfl ?_
  refine wp_toVR (o := some (Γ 15 (j + 1))) (z := .ref (Γ 15 (j + 1))) ((hR.mg j _ hm).2.2.2.1) rfl ?_
  refine wn_len (len := m.2.2.1) d_Msg_byteAt_9 ((hR.mg j _ hm).2.2.2.2.2.2.2.2.1) rfl ((hR.mg j _ hm).2.2.2.2.2.2.2.2.2.1) ?_
  refine wp_geN (tgt := 26) d_Msg_byteAt_10 (by decide) (by omega) (by omega) (fun c10 => ?_) (fun c10 => ?_)
  · omega
  · refine wp_aload_n d_Msg_byteAt_13 rfl 0 rfl ?_
    refine wn_get_Msg d_Msg_byteAt_14 ((hR.mg j _ hm).2.1) 0 (by decide) wF_Msg_9 rfl ?_
    refine wp_toVR (o := some (Γ 15 (j + 1))) (z := .ref (Γ 15 (j + 1))) ((hR.mg j _ hm).2.2.2.1) rfl ?_
    refine wp_iload_n d_Msg_byteAt_17 rfl 1 rfl ?_
    refine wn_bld (x := (b8 (textAt s m p))) d_Msg_byteAt_18 ((hR.mg j _ hm).2.2.2.2.2.2.2.2.1) (by rw [(hR.mg j _ hm).2.2.2.2.2.2.2.2.2.1]; omega) (by rw [(hR.mg j _ hm).2.2.2.2.2.2.2.2.2.1]; omega) ((hR.mg j _ hm).2.2.2.2.2.2.2.2.2.2.2.2.2.2.1 p hp) ?_
    refine wp_sipush (v := nI 255) d_Msg_byteAt_19 (by decide) ?_
    refine wp_iand d_Msg_byteAt_22 ?_
    refine wp_toI (z := nI (textAt s m p)) (b8_255 _ (txtR_lt _ _)) ?_
    refine wp_goto (tgt := 27) d_Msg_byteAt_23 (by decide) ?_
    exact wp_iret d_Msg_byteAt_27 rfl ⟨rfl, rfl⟩
set_option maxRecDepth 20000 in
theorem c_Msg_byteAt0 {G : Gt} {K N : Nat → Nat} {I : Nat → Nat → Int32} {R : Nat → Nat → Option Nat} {L : Nat → Nat → Int64} {E : Nat → Nat → Int32} {El : Nat → Nat → Int64} {Er : Nat → Nat → Option Nat} {Γ : Gm} {ρ : Nat → Nat} {s : Sa} (hR : RepN Γ ρ K N I R L E El Er s) {j : Nat} {m : Nat × List (List Nat) × Nat × Nat} (hm : (sMs s)[j]? = some m) {z : Int32} (hl : m.2.2.1 ≤ 1600) (hz : z < 0 ∨ ¬ z < nI m.2.2.1) : CallR G m_Msg_byteAt 0 0 [.ref (Γ 14 (j + 1)), .int z] (hN K N I R L E El Er) 0 0 (some (.int (-1))) (hN K N I R L E El Er) := by
  refine CallS.of (Nat.le_of_ble_eq_true rfl) ?_
  refine wp_iload_n d_Msg_byteAt_0 rfl 1 rfl ?_
  refine wp_if_lt (tgt := 26) d_Msg_byteAt_1 (by decide) (fun c1 => ?_) (fun c1 => ?_)
  · refine wp_iconst (v := -1) d_Msg_byteAt_26 (by decide) ?_
    exact wp_iret d_Msg_byteAt_27 rfl ⟨rfl, rfl⟩
  · refine wp_iload_n d_Msg_byteAt_4 rfl 1 rfl ?_
    refine wp_aload_n d_Msg_byteAt_5 rfl 0 rfl ?_
    refine wn_get_Msg d_Msg_byteAt_6 ((hR.mg j _ hm).2.1) 0 (by decide) wF_Msg_9 rfl ?_
    refine wp_toVR (o := some (Γ 15 (j + 1))) (z := .ref (Γ 15 (j + 1))) ((hR.mg j _ hm).2.2.2.1) rfl ?_
    refine wn_len (len := m.2.2.1) d_Msg_byteAt_9 ((hR.mg j _ hm).2.2.2.2.2.2.2.2.1) rfl ((hR.mg j _ hm).2.2.2.2.2.2.2.2.2.1) ?_
    refine wp_icmp_ge (tgt := 26) d_Msg_byteAt_10 (by decide) (fun c10 => ?_) (fun c10 => ?_)
    · refine wp_iconst (v := -1) d_Msg_byteAt_26 (by decide) ?_
      exact wp_iret d_Msg_byteAt_27 rfl ⟨rfl, rfl⟩
    · exact absurd (Int32.not_le.mp c10) (hz.resolve_left c1)
set_option maxRecDepth 20000 in
theorem c_Net_readX {G : Gt} {K N : Nat → Nat} {I : Nat → Nat → Int32} {R : Nat → Nat → Option Nat} {L : Nat → Nat → Int64} {E : Nat → Nat → Int32} {El : Nat → Nat → Int64} {Er : Nat → Nat → Option Nat} {Γ : Gm} {ρ : Nat → Nat} {s : Sa} (hR : RepN Γ ρ K N I R L E El Er s) {x k i : Int32} (hx : inZ x (nI 0) (nI 5) = false) : CallT G m_Net_read 7 95 [.ref (Γ 0 0), .int x, .int k, .int i] (hN K N I R L E El Er) 1 6 0 (fun h' => h' = (hN K N I R L E El Er)) := by
  refine CallS.of (Nat.le_of_ble_eq_true rfl) ?_
  refine wp_aload_n d_Net_read_0 rfl 0 rfl ?_
  refine wp_iload_n d_Net_read_1 rfl 1 rfl ?_
  exact wp_callT (k' := 1) (n' := 6) (r := 0) d_Net_read_2 (link_V (as := [.int x]) (rest := []) (r := (R_Net, T_Net, 7)) d_Net_read_2 cal_Net_switchAt wM_Net_39 rfl (hN_o (hR.nt.1) (by decide)) rfl) cal_Net_switchAt rfl (c_Net_switchAtX hx) (Nat.le_of_ble_eq_true rfl) ⟨Nat.le_of_ble_eq_true rfl, Nat.le_of_ble_eq_true rfl⟩ (fun h' q => ⟨rfl, q⟩)
set_option maxRecDepth 20000 in
theorem c_Net_read0 {G : Gt} {K N : Nat → Nat} {I : Nat → Nat → Int32} {R : Nat → Nat → Option Nat} {L : Nat → Nat → Int64} {E : Nat → Nat → Int32} {El : Nat → Nat → Int64} {Er : Nat → Nat → Option Nat} {Γ : Gm} {ρ : Nat → Nat} {s : Sa} (hR : RepN Γ ρ K N I R L E El Er s) {x : Nat} {z i : Int32} (hx : x < 6) (hd : (sDk s x).length ≤ 200) (hz : z < 0 ∨ ¬ z < nI (sDk s x).length) : CallR G m_Net_read 1 13 [.ref (Γ 0 0), .int (nI x), .int z, .int i] (hN K N I R L E El Er) 0 0 (some (.int (-1))) (hN K N I R L E El Er) := by
  refine CallS.of (Nat.le_of_ble_eq_true rfl) ?_
  refine wp_aload_n d_Net_read_0 rfl 0 rfl ?_
  refine wp_iload_n d_Net_read_1 rfl 1 rfl ?_
  refine wp_callV (r := 0) d_Net_read_2 (link_V (as := [.int (nI x)]) (rest := []) (r := (R_Net, T_Net, 7)) d_Net_read_2 cal_Net_switchAt wM_Net_39 rfl (hN_o (hR.nt.1) (by decide)) rfl) cal_Net_switchAt (c_Net_switchAt hR hx) (Nat.le_of_ble_eq_true rfl) ⟨Nat.le_of_ble_eq_true rfl, Nat.le_of_ble_eq_true rfl⟩ ?_
  refine wp_iload_n d_Net_read_5 rfl 2 rfl ?_
  refine wp_callV (r := 0) d_Net_read_6 (link_V (as := [.int z]) (rest := []) (r := (R_Swt, T_Swt, 8)) d_Net_read_6 cal_Swt_messageOnDesk wM_Net_214 rfl (hN_o ((hR.sw x hx).2.1) (by decide)) rfl) cal_Swt_messageOnDesk (c_Swt_messageOnDesk0 hR hx hd hz) (Nat.le_of_ble_eq_true rfl) ⟨Nat.le_of_ble_eq_true rfl, Nat.le_of_ble_eq_true rfl⟩ ?_
  refine wp_astoreN (lv' := [(4, .null), (0, .ref (Γ 0 0)), (1, .int (nI x)), (2, .int z), (3, .int i)]) d_Net_read_9 (by decide) rfl ?_
  refine wp_aloadN d_Net_read_11 0 rfl ?_
  refine wp_ifnonnullN d_Net_read_13 ?_
  refine wp_iconst (v := -1) d_Net_read_16 (by decide) ?_
  refine wp_goto (tgt := 26) d_Net_read_17 (by decide) ?_
  exact wp_iret d_Net_read_26 rfl ⟨rfl, rfl⟩
set_option maxRecDepth 20000 in
theorem c_Net_read1 {G : Gt} {K N : Nat → Nat} {I : Nat → Nat → Int32} {R : Nat → Nat → Option Nat} {L : Nat → Nat → Int64} {E : Nat → Nat → Int32} {El : Nat → Nat → Int64} {Er : Nat → Nat → Option Nat} {Γ : Gm} {ρ : Nat → Nat} {s : Sa} (hR : RepN Γ ρ K N I R L E El Er s) {j : Nat} {m : Nat × List (List Nat) × Nat × Nat} (hm : (sMs s)[j]? = some m) {x k : Nat} (hx : x < 6) (hd : (sDk s x).length ≤ 200) (hdm : (sDk s x)[k]? = some (j + 1)) (hl : m.2.2.1 ≤ 1600) {z : Int32} (hz : z < 0 ∨ ¬ z < nI m.2.2.1) : CallR G m_Net_read 1 13 [.ref (Γ 0 0), .int (nI x), .int (nI k), .int z] (hN K N I R L E El Er) 0 0 (some (.int (-1))) (hN K N I R L E El Er) := by
  refine CallS.of (Nat.le_of_ble_eq_true rfl) ?_
  refine wp_aload_n d_Net_read_0 rfl 0 rfl ?_
  refine wp_iload_n d_Net_read_1 rfl 1 rfl ?_
  refine wp_callV (r := 0) d_Net_read_2 (link_V (as := [.int (nI x)]) (rest := []) (r := (R_Net, T_Net, 7)) d_Net_read_2 cal_Net_switchAt wM_Net_39 rfl (hN_o (hR.nt.1) (by decide)) rfl) cal_Net_switchAt (c_Net_switchAt hR hx) (Nat.le_of_ble_eq_true rfl) ⟨Nat.le_of_ble_eq_true rfl, Nat.le_of_ble_eq_true rfl⟩ ?_
  refine wp_iload_n d_Net_read_5 rfl 2 rfl ?_
  refine wp_callV (r := 0) d_Net_read_6 (link_V (as := [.int (nI k)]) (rest := []) (r := (R_Swt, T_Swt, 8)) d_Net_read_6 cal_Swt_messageOnDesk wM_Net_214 rfl (hN_o ((hR.sw x hx).2.1) (by decide)) rfl) cal_Swt_messageOnDesk (c_Swt_messageOnDesk1 hR hx hdm hd) (Nat.le_of_ble_eq_true rfl) ⟨Nat.le_of_ble_eq_true rfl, Nat.le_of_ble_eq_true rfl⟩ ?_
  refine wp_astore (lv' := [(4, .ref (Γ 14 (j + 1))), (0, .ref (Γ 0 0)), (1, .int (nI x)), (2, .int (nI k)), (3, .int z)]) d_Net_read_9 (by decide) rfl ?_
  refine wp_aload d_Net_read_11 0 rfl ?_
  refine wp_ifnonnull (tgt := 20) d_Net_read_13 (by decide) ?_
  refine wp_aload d_Net_read_20 0 rfl ?_
  refine wp_iload_n d_Net_read_22 rfl 4 rfl ?_
  refine wp_callV (r := 0) d_Net_read_23 (link_V (as := [.int z]) (rest := []) (r := (R_Msg, T_Msg, 5)) d_Net_read_23 cal_Msg_byteAt wM_Net_218 rfl (hN_o ((hR.mg j _ hm).2.1) (by decide)) rfl) cal_Msg_byteAt (c_Msg_byteAt0 hR hm hl hz) (Nat.le_of_ble_eq_true rfl) ⟨Nat.le_of_ble_eq_true rfl, Nat.le_of_ble_eq_true rfl⟩ ?_
  exact wp_iret d_Net_read_26 rfl ⟨rfl, rfl⟩
set_option maxRecDepth 20000 in
theorem c_Net_read2 {G : Gt} {K N : Nat → Nat} {I : Nat → Nat → Int32} {R : Nat → Nat → Option Nat} {L : Nat → Nat → Int64} {E : Nat → Nat → Int32} {El : Nat → Nat → Int64} {Er : Nat → Nat → Option Nat} {Γ : Gm} {ρ : Nat → Nat} {s : Sa} (hR : RepN Γ ρ K N I R L E El Er s) {j : Nat} {m : Nat × List (List Nat) × Nat × Nat} (hm : (sMs s)[j]? = some m) {x k : Nat} (hx : x < 6) (hd : (sDk s x).length ≤ 200) (hdm : (sDk s x)[k]? = some (j + 1)) (hl : m.2.2.1 ≤ 1600) {p : Nat} (hp : p < m.2.2.1) : CallR G m_Net_read 1 13 [.ref (Γ 0 0), .int (nI x), .int (nI k), .int (nI p)] (hN K N I R L E El Er) 0 0 (some (.int (nI (textAt s m p)))) (hN K N I R L E El Er) := by
  refine CallS.of (Nat.le_of_ble_eq_true rfl) ?_
  refine wp_aload_n d_Net_read_0 rfl 0 rfl ?_
  refine wp_iload_n d_Net_read_1 rfl 1 rfl ?_
  refine wp_callV (r := 0) d_Net_read_2 (link_V (as := [.int (nI x)]) (rest := []) (r := (R_Net, T_Net, 7)) d_Net_read_2 cal_Net_switchAt wM_Net_39 rfl (hN_o (hR.nt.1) (by decide)) rfl) cal_Net_switchAt (c_Net_switchAt hR hx) (Nat.le_of_ble_eq_true rfl) ⟨Nat.le_of_ble_eq_true rfl, Nat.le_of_ble_eq_true rfl⟩ ?_
  refine wp_iload_n d_Net_read_5 rfl 2 rfl ?_
  refine wp_callV (r := 0) d_Net_read_6 (link_V (as := [.int (nI k)]) (rest := []) (r := (R_Swt, T_Swt, 8)) d_Net_read_6 cal_Swt_messageOnDesk wM_Net_214 rfl (hN_o ((hR.sw x hx).2.1) (by decide)) rfl) cal_Swt_messageOnDesk (c_Swt_messageOnDesk1 hR hx hdm hd) (Nat.le_of_ble_eq_true rfl) ⟨Nat.le_of_ble_eq_true rfl, Nat.le_of_ble_eq_true rfl⟩ ?_
  refine wp_astore (lv' := [(4, .ref (Γ 14 (j + 1))), (0, .ref (Γ 0 0)), (1, .int (nI x)), (2, .int (nI k)), (3, .int (nI p))]) d_Net_read_9 (by decide) rfl ?_
  refine wp_aload d_Net_read_11 0 rfl ?_
  refine wp_ifnonnull (tgt := 20) d_Net_read_13 (by decide) ?_
  refine wp_aload d_Net_read_20 0 rfl ?_
  refine wp_iload_n d_Net_read_22 rfl 4 rfl ?_
  refine wp_callV (r := 0) d_Net_read_23 (link_V (as := [.int (nI p)]) (rest := []) (r := (R_Msg, T_Msg, 5)) d_Net_read_23 cal_Msg_byteAt wM_Net_218 rfl (hN_o ((hR.mg j _ hm).2.1) (by decide)) rfl) cal_Msg_byteAt (c_Msg_byteAt1 hR hm hp hl) (Nat.le_of_ble_eq_true rfl) ⟨Nat.le_of_ble_eq_true rfl, Nat.le_of_ble_eq_true rfl⟩ ?_
  exact wp_iret d_Net_read_26 rfl ⟨rfl, rfl⟩
theorem n_Net_read {G : Gt} {K N : Nat → Nat} {I : Nat → Nat → Int32} {R : Nat → Nat → Option Nat} {L : Nat → Nat → Int64} {E : Nat → Nat → Int32} {El : Nat → Nat → Int64} {Er : Nat → Nat → Option Nat} {Γ : Gm} {ρ : Nat → Nat} {s : Sa} (hR : RepN Γ ρ K N I R L E El Er s) {n0 : Nat} (hV : Inv n0 s) (x k i : Int32) : CallN G m_Net_read 7 95 [.ref (Γ 0 0), .int x, .int k, .int i] (hN K N I R L E El Er) 1 6 (stRead s x k i) false (Γ 0 0) := by
  unfold stRead swB
  cases hx : inZ x (nI 0) (nI 5) with
  | false => exact CallN.ofT (c_Net_readX hR hx) (by decide) (by decide) (by decide) (by decide) rfl hR.okT
  | true =>
    obtain ⟨j, hj, rfl⟩ := inZ_of (by decide) hx
    have hd : (sDk s j).length ≤ 200 := dk_len hV j
    rw [if_pos rfl, nN_nI (by omega)]
    by_cases hk0 : k < 0
    · rw [if_pos hk0]
      exact CallN.ofR (c_Net_read0 hR (show j < 6 by omega) hd (Or.inl hk0)) (by decide) (by decide) (by decide) (by decide) rfl hR.ok
    · rw [if_neg hk0]
      obtain ⟨q, hq, rfl⟩ := nI_of hk0
      rw [nN_nI hq]
      cases hm : (sDk s j)[q]? with
      | none =>
        have hge : (sDk s j).length ≤ q := List.getElem?_eq_none_iff.mp hm
        exact CallN.ofR (c_Net_read0 hR (show j < 6 by omega) hd (Or.inr (fun z => by have := (nI_ltI hq (by omega)).mp z; omega))) (by decide) (by decide) (by decide) (by decide) rfl hR.ok
      | some m =>
        have hm1 := (hV.2.2.1.2.2.2.2 j).2 m (List.mem_of_getElem? hm)
        obtain ⟨m', rfl⟩ : ∃ m', m = m' + 1 := ⟨m - 1, by omega⟩
        obtain ⟨r, hr⟩ := get_of (l := sMs s) (i := m') (by omega)
        have hok := hV.ms (List.mem_of_getElem? hr)
        have hrl := hok.2.2.2.2.1
        dsimp only
        rw [show m' + 1 - 1 = m' by omega, show (sMs s).getD m' (0, [], 0, 0) = r by rw [List.getD_eq_getElem?_getD, hr]; rfl]
        by_cases hi : i < 0 ∨ r.2.2.1 ≤ nN i
        · rw [if_pos hi]
          refine CallN.ofR (c_Net_read1 hR hr (show j < 6 by omega) hd hm hrl ?_) (by decide) (by decide) (by decide) (by decide) rfl hR.ok
          rcases hi with h | h
          · exact Or.inl h
          · rcases Int32.lt_or_le i 0 with h0 | h0
            · exact Or.inl h0
            · obtain ⟨w, hw, rfl⟩ := nI_of (Int32.not_lt.mpr h0)
              rw [nN_nI hw] at h
              exact Or.inr (fun z => by have := (nI_ltI hw (by omega)).mp z; omega)
        · rw [if_neg hi]
          obtain ⟨w, hw, rfl⟩ := nI_of (fun z => hi (Or.inl z))
          rw [nN_nI hw] at hi ⊢
          exact CallN.ofR (c_Net_read2 hR hr (show j < 6 by omega) hd hm hrl (show w < r.2.2.1 by omega)) (by decide) (by decide) (by decide) (by decide) rfl hR.ok
end Cls13
