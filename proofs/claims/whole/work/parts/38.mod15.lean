section Mod15
theorem tb_1 (x k : Nat) : x / 2 ^ k % 2 ^ 1 = 1 ↔ x.testBit k = true := by
  rw [Nat.testBit_eq_decide_div_mod_eq, decide_eq_true_iff]
theorem tb_0 (x k : Nat) : x / 2 ^ k % 2 ^ 1 = 0 ↔ x.testBit k = false := by
  rw [Nat.testBit_eq_decide_div_mod_eq, decide_eq_false_iff_not]
  omega
/-- a byte of an int -/
theorem byteI (v : Int32) {c : Nat} (hc : c + 8 ≤ 32) : (v >>> (nI c &&& 31)) &&& nI 255 = nI (v.toBitVec.toNat / 2 ^ c % 256) := by
  apply Int32.toBitVec_inj.1
  show (v.toBitVec.sshiftRight ((nI c &&& 31).toBitVec.smod 32).toNat) &&& (nI 255).toBitVec = BitVec.ofNat 32 _
  rw [sh_l c (by omega)]
  apply BitVec.eq_of_getLsbD_eq
  intro i hi
  rw [BitVec.getLsbD_and, BitVec.getLsbD_sshiftRight, BitVec.getLsbD_ofNat, show (256 : Nat) = 2 ^ 8 from rfl, Nat.testBit_mod_two_pow, Nat.testBit_div_two_pow]
  have e : (nI 255).toBitVec.getLsbD i = decide (i < 8) := by
    show (BitVec.ofNat 32 255).getLsbD i = _
    rw [BitVec.getLsbD_ofNat, show (255 : Nat) = 2 ^ 8 - 1 from rfl, Nat.testBit_two_pow_sub_one]
    simp [hi]
  rw [e]
  by_cases h8 : i < 8
  · simp [h8, hi, show c + i < 32 by omega, BitVec.getLsbD, Nat.add_comm]
  · simp [h8]
theorem txtR_lt (l : List (Nat × Int32)) (i : Nat) : txtR l i < 256 := by
  induction l with
  | nil => show 0 < 256; decide
  | cons p r ih =>
    unfold txtR
    split
    · exact Nat.mod_lt _ (by decide)
    · exact ih
set_option maxRecDepth 20000 in
theorem c_Mod_arrived0 {G : Gt} {o : Nat} {A : Nat → Nat} {Fi : Nat → Int32} {M : Nat → Nat → Int32} {Ml : Nat → Nat → Int64} {m k : Int32} {q : Nat} (hq : Fi 15 = nI q) (hm : inZ m (nI 1) (nI q) = false) : CallR G m_Mod_arrived 1 15 [.ref o, .int m, .int k] (hM o A Fi M Ml) 0 0 (some (.int (bI false))) (hM o A (va_up Fi 0 (nI 1)) M Ml) := by
  refine CallS.of (Nat.le_of_ble_eq_true rfl) ?_
  refine wp_aload_n d_Mod_arrived_0 rfl 0 rfl ?_
  refine wp_iload_n d_Mod_arrived_1 rfl 1 rfl ?_
  refine wp_iconst (v := nI 1) d_Mod_arrived_2 (by decide) ?_
  refine wp_aload_n d_Mod_arrived_3 rfl 0 rfl ?_
  refine wm_get d_Mod_arrived_4 15 (by decide) wF_Mod_189 rfl ?_
  refine wp_toI (z := (nI q)) (hq) ?_
  refine wp_callV (r := 1) d_Mod_arrived_7 (link_S (av := [.int m, .int (nI 1), .int (nI q)]) (rest := [.ref o]) d_Mod_arrived_7 cal_Mod_in wM_Mod_115 rfl) cal_Mod_in (c_Mod_inF hm) (Nat.le_of_ble_eq_true rfl) ⟨Nat.le_of_ble_eq_true rfl, Nat.le_of_ble_eq_true rfl⟩ ?_
  refine wp_if_eqB (tgt := 33) d_Mod_arrived_10 (by decide) (fun _ => ?_) (fun c => absurd c (by decide))
  refine wp_iconst (v := nI 1) d_Mod_arrived_33 (by decide) ?_
  refine wm_put (Fi' := va_up Fi 0 (nI 1)) d_Mod_arrived_34 0 (by decide) wF_Mod_111 rfl (by decide) rfl ?_
  refine wp_aload_n d_Mod_arrived_37 rfl 0 rfl ?_
  refine wm_get d_Mod_arrived_38 0 (by decide) wF_Mod_111 rfl ?_
  refine wp_toI (z := (nI 1)) (rfl) ?_
  refine wp_if_neN (tgt := 62) d_Mod_arrived_41 (by decide) (by omega) (fun _ => ?_) (fun c => absurd c (by decide))
  refine wp_iconst (v := nI 0) d_Mod_arrived_62 (by decide) ?_
  exact wp_zret (ty := .boolean) d_Mod_arrived_63 rfl rfl ⟨resI (bI_zero (rfl)), rfl⟩
set_option maxRecDepth 20000 in
theorem c_Mod_arrived1 {G : Gt} {o : Nat} {A : Nat → Nat} {Fi : Nat → Int32} {M : Nat → Nat → Int32} {Ml : Nat → Nat → Int64} (hI : mInj o A) {m q t : Nat} (hq : Fi 15 = nI q) (hm : 1 ≤ m ∧ m ≤ q) (hq2 : q ≤ 200) (ht : M 19 m = nI t) (ht2 : 1 ≤ t ∧ t ≤ 7) {k : Int32} (hk : inZ k (nI 0) (nI (t - 1)) = false) : CallR G m_Mod_arrived 1 15 [.ref o, .int (nI m), .int k] (hM o A Fi M Ml) 0 0 (some (.int (bI false))) (hM o A (va_up Fi 0 (nI 1)) M Ml) := by
  refine CallS.of (Nat.le_of_ble_eq_true rfl) ?_
  refine wp_aload_n d_Mod_arrived_0 rfl 0 rfl ?_
  refine wp_iload_n d_Mod_arrived_1 rfl 1 rfl ?_
  refine wp_iconst (v := nI 1) d_Mod_arrived_2 (by decide) ?_
  refine wp_aload_n d_Mod_arrived_3 rfl 0 rfl ?_
  refine wm_get d_Mod_arrived_4 15 (by decide) wF_Mod_189 rfl ?_
  refine wp_toI (z := (nI q)) (hq) ?_
  refine wp_callV (r := 1) d_Mod_arrived_7 (link_S (av := [.int (nI m), .int (nI 1), .int (nI q)]) (rest := [.ref o]) d_Mod_arrived_7 cal_Mod_in wM_Mod_115 rfl) cal_Mod_in (c_Mod_inT (by omega) (by omega) (by omega)) (Nat.le_of_ble_eq_true rfl) ⟨Nat.le_of_ble_eq_true rfl, Nat.le_of_ble_eq_true rfl⟩ ?_
  refine wp_if_eqB (tgt := 33) d_Mod_arrived_10 (by decide) (fun c => absurd c (by decide)) (fun _ => ?_)
  refine wp_iload_n d_Mod_arrived_13 rfl 2 rfl ?_
  refine wp_iconst (v := nI 0) d_Mod_arrived_14 (by decide) ?_
  refine wp_aload_n d_Mod_arrived_15 rfl 0 rfl ?_
  refine wm_get d_Mod_arrived_16 19 (by decide) wF_Mod_57 rfl ?_
  refine wp_iload_n d_Mod_arrived_19 rfl 1 rfl ?_
  refine wm_ild (j := 19) (x := (nI t)) d_Mod_arrived_20 hI (by decide) (by decide) (by show _ < 201; omega) (by decide) (ht) ?_
  refine wp_iconst (v := nI 1) d_Mod_arrived_21 (by decide) ?_
  refine wp_isubN d_Mod_arrived_22 (by omega) ?_
  refine wp_callV (r := 1) d_Mod_arrived_23 (link_S (av := [.int k, .int (nI 0), .int (nI (t - 1))]) (rest := [.ref o]) d_Mod_arrived_23 cal_Mod_in wM_Mod_115 rfl) cal_Mod_in (c_Mod_inF hk) (Nat.le_of_ble_eq_true rfl) ⟨Nat.le_of_ble_eq_true rfl, Nat.le_of_ble_eq_true rfl⟩ ?_
  refine wp_if_eqB (tgt := 33) d_Mod_arrived_26 (by decide) (fun _ => ?_) (fun c => absurd c (by decide))
  refine wp_iconst (v := nI 1) d_Mod_arrived_33 (by decide) ?_
  refine wm_put (Fi' := va_up Fi 0 (nI 1)) d_Mod_arrived_34 0 (by decide) wF_Mod_111 rfl (by decide) rfl ?_
  refine wp_aload_n d_Mod_arrived_37 rfl 0 rfl ?_
  refine wm_get d_Mod_arrived_38 0 (by decide) wF_Mod_111 rfl ?_
  refine wp_toI (z := (nI 1)) (rfl) ?_
  refine wp_if_neN (tgt := 62) d_Mod_arrived_41 (by decide) (by omega) (fun _ => ?_) (fun c => absurd c (by decide))
  refine wp_iconst (v := nI 0) d_Mod_arrived_62 (by decide) ?_
  exact wp_zret (ty := .boolean) d_Mod_arrived_63 rfl rfl ⟨resI (bI_zero (rfl)), rfl⟩
set_option maxRecDepth 20000 in
theorem c_Mod_arrived2 {G : Gt} {o : Nat} {A : Nat → Nat} {Fi : Nat → Int32} {M : Nat → Nat → Int32} {Ml : Nat → Nat → Int64} (hI : mInj o A) {m q t : Nat} (hq : Fi 15 = nI q) (hm : 1 ≤ m ∧ m ≤ q) (hq2 : q ≤ 200) (ht : M 19 m = nI t) (ht2 : 1 ≤ t ∧ t ≤ 7) {k x : Nat} (hk : k < t) (hx : M 21 m = nI x) (hx2 : x < 2 ^ 7) : CallR G m_Mod_arrived 1 15 [.ref o, .int (nI m), .int (nI k)] (hM o A Fi M Ml) 0 0 (some (.int (bI (x.testBit k)))) (hM o A (va_up Fi 0 (nI 0)) M Ml) := by
  refine CallS.of (Nat.le_of_ble_eq_true rfl) ?_
  refine wp_aload_n d_Mod_arrived_0 rfl 0 rfl ?_
  refine wp_iload_n d_Mod_arrived_1 rfl 1 rfl ?_
  refine wp_iconst (v := nI 1) d_Mod_arrived_2 (by decide) ?_
  refine wp_aload_n d_Mod_arrived_3 rfl 0 rfl ?_
  refine wm_get d_Mod_arrived_4 15 (by decide) wF_Mod_189 rfl ?_
  refine wp_toI (z := (nI q)) (hq) ?_
  refine wp_callV (r := 1) d_Mod_arrived_7 (link_S (av := [.int (nI m), .int (nI 1), .int (nI q)]) (rest := [.ref o]) d_Mod_arrived_7 cal_Mod_in wM_Mod_115 rfl) cal_Mod_in (c_Mod_inT (by omega) (by omega) (by omega)) (Nat.le_of_ble_eq_true rfl) ⟨Nat.le_of_ble_eq_true rfl, Nat.le_of_ble_eq_true rfl⟩ ?_
  refine wp_if_eqB (tgt := 33) d_Mod_arrived_10 (by decide) (fun c => absurd c (by decide)) (fun _ => ?_)
  refine wp_iload_n d_Mod_arrived_13 rfl 2 rfl ?_
  refine wp_iconst (v := nI 0) d_Mod_arrived_14 (by decide) ?_
  refine wp_aload_n d_Mod_arrived_15 rfl 0 rfl ?_
  refine wm_get d_Mod_arrived_16 19 (by decide) wF_Mod_57 rfl ?_
  refine wp_iload_n d_Mod_arrived_19 rfl 1 rfl ?_
  refine wm_ild (j := 19) (x := (nI t)) d_Mod_arrived_20 hI (by decide) (by decide) (by show _ < 201; omega) (by decide) (ht) ?_
  refine wp_iconst (v := nI 1) d_Mod_arrived_21 (by decide) ?_
  refine wp_isubN d_Mod_arrived_22 (by omega) ?_
  refine wp_callV (r := 1) d_Mod_arrived_23 (link_S (av := [.int (nI k), .int (nI 0), .int (nI (t - 1))]) (rest := [.ref o]) d_Mod_arrived_23 cal_Mod_in wM_Mod_115 rfl) cal_Mod_in (c_Mod_inT (by omega) (by omega) (by omega)) (Nat.le_of_ble_eq_true rfl) ⟨Nat.le_of_ble_eq_true rfl, Nat.le_of_ble_eq_true rfl⟩ ?_
  refine wp_if_eqB (tgt := 33) d_Mod_arrived_26 (by decide) (fun c => absurd c (by decide)) (fun _ => ?_)
  refine wp_iconst (v := nI 0) d_Mod_arrived_29 (by decide) ?_
  refine wp_goto (tgt := 34) d_Mod_arrived_30 (by decide) ?_
  refine wm_put (Fi' := va_up Fi 0 (nI 0)) d_Mod_arrived_34 0 (by decide) wF_Mod_111 rfl (by decide) rfl ?_
  refine wp_aload_n d_Mod_arrived_37 rfl 0 rfl ?_
  refine wm_get d_Mod_arrived_38 0 (by decide) wF_Mod_111 rfl ?_
  refine wp_toI (z := (nI 0)) (rfl) ?_
  refine wp_if_neN (tgt := 62) d_Mod_arrived_41 (by decide) (by omega) (fun c => absurd c (by decide)) (fun _ => ?_)
  refine wp_aload_n d_Mod_arrived_44 rfl 0 rfl ?_
  refine wm_get d_Mod_arrived_45 21 (by decide) wF_Mod_63 rfl ?_
  refine wp_iload_n d_Mod_arrived_48 rfl 1 rfl ?_
  refine wm_ild (j := 21) (x := (nI x)) d_Mod_arrived_49 hI (by decide) (by decide) (by show _ < 201; omega) (by decide) (hx) ?_
  refine wp_iload_n d_Mod_arrived_50 rfl 2 rfl ?_
  refine wp_ishrN d_Mod_arrived_51 (by omega) (by omega) ?_
  have hdv : x / 2 ^ k ≤ x := Nat.div_le_self _ _
  refine wp_iconst (v := nI 1) d_Mod_arrived_52 (by decide) ?_
  refine wp_iandM (c := 1) d_Mod_arrived_53 (by omega) (by decide) ?_
  refine wp_iconst (v := nI 1) d_Mod_arrived_54 (by decide) ?_
  refine wp_neN (tgt := 62) d_Mod_arrived_55 (by decide) (by omega) (by omega) (fun c55 => ?_) (fun c55 => ?_)
  · refine wp_iconst (v := nI 0) d_Mod_arrived_62 (by decide) ?_
    exact wp_zret (ty := .boolean) d_Mod_arrived_63 rfl rfl ⟨resI (bI_zero (by rcases Bool.eq_false_or_eq_true (x.testBit k) with h | h; (exact absurd ((tb_1 _ _).mpr h) c55); (exact h))), rfl⟩
  · refine wp_iconst (v := nI 1) d_Mod_arrived_58 (by decide) ?_
    refine wp_goto (tgt := 63) d_Mod_arrived_59 (by decide) ?_
    exact wp_zret (ty := .boolean) d_Mod_arrived_63 rfl rfl ⟨resI (bI_one ((tb_1 _ _).mp c55)), rfl⟩
theorem nN_pos {m : Int32} (h : (0 : Int32) < m) : ∃ j, 1 ≤ j ∧ j < 2 ^ 31 ∧ m = nI j := by
  have h1 : ¬ m < 0 := fun q => Int32.lt_irrefl (Int32.lt_trans h q)
  obtain ⟨j, hj, rfl⟩ := nI_of h1
  refine ⟨j, ?_, hj, rfl⟩
  rw [← nI_0, nI_ltI (by decide) hj] at h
  exact h
theorem inZ_m {m : Int32} {lo hi : Nat} (hl : lo < 2 ^ 31) (hh : hi < 2 ^ 31) (h : ∀ j, lo ≤ j → j ≤ hi → m ≠ nI j) : inZ m (nI lo) (nI hi) = false := by
  cases hm : inZ m (nI lo) (nI hi) with
  | false => rfl
  | true =>
    obtain ⟨p, h1, h2, rfl⟩ := inZ_w hl hh hm
    exact absurd rfl (h p h1 h2)
theorem c_Mod_arrived {G : Gt} {o : Nat} {A : Nat → Nat} {Fi : Nat → Int32} {M : Nat → Nat → Int32} {Ml : Nat → Nat → Int64} {s : Sa} {n : Nat} (hI : mInj o A) (hR : RepM s Fi M Ml) (hV : Inv n s) (m k : Int32) : CallE G m_Mod_arrived 1 15 [.ref o, .int m, .int k] (hM o A Fi M Ml) 0 0 (some (.int (stArrived s m k).2.1)) (RefOK o A (stArrived s m k)) := by
  have hms := hV.2.1.2.2.2.2.2.2.1
  cases hm : inZ m (nI 1) (nI (sMs s).length) with
  | false =>
    rw [show stArrived s m k = (1, 0, s) by
      unfold stArrived
      rw [if_neg]
      intro q
      obtain ⟨j, hj1, hj2, rfl⟩ := nN_pos q.1
      rw [inZ_nI hj2 (by decide) (by omega)] at hm
      rw [nN_nI hj2] at q
      exact absurd hm (by simp; omega)]
    exact CallR.E (CallR.up (c_Mod_arrived0 hR.fi.2.2.1 hm) (by decide) (by decide)) ⟨_, _, _, rfl, hR, rfl⟩
  | true =>
    obtain ⟨j, hj1, hj2, rfl⟩ := inZ_w (by decide) (by omega) hm
    obtain ⟨r, hr0, hr1, hr2, hr3, hr4, hr5, hr6, hr7⟩ := RMs_at hR.ms hj1 hj2
    have hok := hV.ms hr2
    have h0 := hok.2.1
    have h00 := hok.2.2.1
    have hcnt : cntOf s j = r.2.1.length := by unfold cntOf; rw [hr1]
    have hcm := hV.2.2.1.1 j
    rw [hcnt] at hcm
    have hcm2 : sCm s j < 2 ^ 7 := Nat.lt_of_lt_of_le hcm (Nat.pow_le_pow_right (by decide) hok.2.2.1)
    have hpos : (0 : Int32) < nI j := by rw [← nI_0]; exact (nI_ltI (by decide) (by omega)).mpr (by omega)
    cases hk : inZ k (nI 0) (nI (r.2.1.length - 1)) with
    | false =>
      rw [show stArrived s (nI j) k = (1, 0, s) by
        unfold stArrived
        rw [if_neg]
        intro q
        obtain ⟨i, hi2, rfl⟩ := nI_of q.2.2.1
        have q4 := q.2.2.2
        rw [nN_nI hi2, nN_nI (by omega), hcnt] at q4
        rw [inZ_nI hi2 (by decide) (by omega)] at hk
        exact absurd hk (by simp; omega)]
      exact CallR.E (CallR.up (c_Mod_arrived1 hI hR.fi.2.2.1 ⟨hj1, hj2⟩ hms hr6 ⟨hok.2.1, hok.2.2.1⟩ hk) (by decide) (by decide)) ⟨_, _, _, rfl, hR, rfl⟩
    | true =>
      obtain ⟨i, _, hi2, rfl⟩ := inZ_w (by decide) (by omega) hk
      have h0 := hok.2.1
      have h00 := hok.2.2.1
      rw [show stArrived s (nI j) (nI i) = (0, bI ((sCm s j).testBit i), s) by
        unfold stArrived
        rw [nN_nI (by omega), nN_nI (by omega), if_pos ⟨hpos, hj2, nI_pos (by omega), by rw [hcnt]; omega⟩]]
      exact CallR.E (CallR.up (c_Mod_arrived2 hI hR.fi.2.2.1 ⟨hj1, hj2⟩ hms hr6 ⟨hok.2.1, hok.2.2.1⟩ (by omega) (hR.cm j hj1 hj2) hcm2) (by decide) (by decide)) ⟨_, _, _, rfl, hR, rfl⟩
set_option maxRecDepth 20000 in
theorem c_Mod_put0 {G : Gt} {o : Nat} {A : Nat → Nat} {Fi : Nat → Int32} {M : Nat → Nat → Int32} {Ml : Nat → Nat → Int64} {x v : Int32} (hx : inZ x (nI 0) (nI 1599) = false) : CallR G m_Mod_put 1 15 [.ref o, .int x, .int v] (hM o A Fi M Ml) 0 0 none (hM o A (va_up Fi 0 (nI 1)) M Ml) := by
  refine CallS.of (Nat.le_of_ble_eq_true rfl) ?_
  refine wp_aload_n d_Mod_put_0 rfl 0 rfl ?_
  refine wp_iload_n d_Mod_put_1 rfl 1 rfl ?_
  refine wp_iconst (v := nI 0) d_Mod_put_2 (by decide) ?_
  refine wp_sipush (v := nI 1599) d_Mod_put_3 (by decide) ?_
  refine wp_callV (r := 1) d_Mod_put_6 (link_S (av := [.int x, .int (nI 0), .int (nI 1599)]) (rest := [.ref o]) d_Mod_put_6 cal_Mod_in wM_Mod_115 rfl) cal_Mod_in (c_Mod_inF hx) (Nat.le_of_ble_eq_true rfl) ⟨Nat.le_of_ble_eq_true rfl, Nat.le_of_ble_eq_true rfl⟩ ?_
  refine wp_if_eqB (tgt := 16) d_Mod_put_9 (by decide) (fun _ => ?_) (fun c => absurd c (by decide))
  refine wp_iconst (v := nI 1) d_Mod_put_16 (by decide) ?_
  refine wm_put (Fi' := va_up Fi 0 (nI 1)) d_Mod_put_17 0 (by decide) wF_Mod_111 rfl (by decide) rfl ?_
  refine wp_aload_n d_Mod_put_20 rfl 0 rfl ?_
  refine wm_get d_Mod_put_21 0 (by decide) wF_Mod_111 rfl ?_
  refine wp_toI (z := (nI 1)) (rfl) ?_
  refine wp_if_leN (tgt := 28) d_Mod_put_24 (by decide) (by omega) (fun c => absurd c (by decide)) (fun _ => ?_)
  exact wp_vret d_Mod_put_27 rfl ⟨rfl, rfl⟩
set_option maxRecDepth 20000 in
theorem c_Mod_put1 {G : Gt} {o : Nat} {A : Nat → Nat} {Fi : Nat → Int32} {M : Nat → Nat → Int32} {Ml : Nat → Nat → Int64} (hI : mInj o A) {i n : Nat} {v : Int32} (hi : i < 1600) (hn : Fi 2 = nI n) (hn2 : n < 8000) : CallE G m_Mod_put 1 15 [.ref o, .int (nI i), .int v] (hM o A Fi M Ml) 0 0 none (fun h' => ∃ M', h' = hM o A (va_up (va_up Fi 0 (nI 0)) 2 (nI (n + 1))) M' Ml ∧ (∀ a, a ≠ 5 → M' a = (u2 (u2 M 3 n (nI i)) 4 n v) a) ∧ ∀ p, p < 1600 → M' 5 p = if i ≤ p ∧ p < i + 4 then nI (v.toBitVec.toNat / 2 ^ (8 * (p - i)) % 256) else M 5 p) := by
  refine CallS.of (Nat.le_of_ble_eq_true rfl) ?_
  have L2 : ∀ (f k : Nat) (X : Nat → Nat → Int32), 4 - k < f → k ≤ 4 → (∀ a, a ≠ 5 → X a = (u2 (u2 M 3 n (nI i)) 4 n v) a) → (∀ p, p < 1600 → X 5 p = if i ≤ p ∧ p < i + k then nI (v.toBitVec.toNat / 2 ^ (8 * (p - i)) % 256) else M 5 p) → WP G m_Mod_put (1, 15, 0, 0, (hM o A Fi M Ml), fun r9 h9 => r9 = .inl none ∧ (fun h' => ∃ M', h' = hM o A (va_up (va_up Fi 0 (nI 0)) 2 (nI (n + 1))) M' Ml ∧ (∀ a, a ≠ 5 → M' a = (u2 (u2 M 3 n (nI i)) 4 n v) a) ∧ ∀ p, p < 1600 → M' 5 p = if i ≤ p ∧ p < i + 4 then nI (v.toBitVec.toNat / 2 ^ (8 * (p - i)) % 256) else M 5 p) h9) 60 [(3, .int (nI k)), (0, .ref o), (1, .int (nI i)), (2, .int v)] [] (hM o A (va_up (va_up Fi 0 (nI 0)) 2 (nI (n + 1))) X Ml) 0 0 := by
    intro f
    induction f with
    | zero =>
      intro k X h1
      omega
    | succ f ih =>
      intro k X hf hk hX hX2
      refine wp_iload_n d_Mod_put_60 rfl 0 rfl ?_
      refine wp_iconst (v := nI 4) d_Mod_put_61 (by decide) ?_
      refine wp_geN (tgt := 98) d_Mod_put_62 (by decide) (by omega) (by omega) (fun c62 => ?_) (fun c62 => ?_)
      · exact wp_vret d_Mod_put_98 rfl ⟨rfl, X, rfl, hX, fun p hp => by rw [hX2 p hp]; by_cases h1 : i ≤ p ∧ p < i + k; (rw [if_pos h1, if_pos (by omega)]); (rw [if_neg h1, if_neg (by omega)])⟩
      · refine wp_iload_n d_Mod_put_65 rfl 2 rfl ?_
        refine wp_iload_n d_Mod_put_66 rfl 0 rfl ?_
        refine wp_iaddN d_Mod_put_67 ?_
        refine wp_sipush (v := nI 1600) d_Mod_put_68 (by decide) ?_
        refine wp_geN (tgt := 98) d_Mod_put_71 (by decide) (by omega) (by omega) (fun c71 => ?_) (fun c71 => ?_)
        · exact wp_vret d_Mod_put_98 rfl ⟨rfl, X, rfl, hX, fun p hp => by rw [hX2 p hp]; by_cases h1 : i ≤ p ∧ p < i + k; (rw [if_pos h1, if_pos (by omega)]); (rw [if_neg h1, if_neg (by omega)])⟩
        · refine wp_aload_n d_Mod_put_74 rfl 1 rfl ?_
          refine wm_get d_Mod_put_75 5 (by decide) wF_Mod_16 rfl ?_
          refine wp_iload_n d_Mod_put_78 rfl 2 rfl ?_
          refine wp_iload_n d_Mod_put_79 rfl 0 rfl ?_
          refine wp_iaddN d_Mod_put_80 ?_
          refine wp_iload_n d_Mod_put_81 rfl 3 rfl ?_
          refine wp_bipush (v := nI 8) d_Mod_put_82 (by decide) ?_
          refine wp_iload_n d_Mod_put_84 rfl 0 rfl ?_
          refine wp_imulN d_Mod_put_85 ?_
          refine wp_ishr d_Mod_put_86 ?_
          refine wp_sipush (v := nI 255) d_Mod_put_87 (by decide) ?_
          refine wp_iand d_Mod_put_90 ?_
          refine wp_toI (z := (nI (v.toBitVec.toNat / 2 ^ (8 * k) % 256))) (byteI v (by omega)) ?_
          refine wm_ist (j := 5) d_Mod_put_91 hI (by decide) (by decide) (by show _ < 1600; omega) (by decide) ?_
          refine wp_iinc (lv' := [(3, .int (nI (k + 1))), (0, .ref o), (1, .int (nI i)), (2, .int v)]) d_Mod_put_92 0 rfl (nI_1 _) (by decide) rfl ?_
          refine wp_goto (tgt := 60) d_Mod_put_95 (by decide) ?_
          exact ih (k + 1) _ (by omega) (by omega) (fun a ha => by rw [u2_ne _ _ ha]; exact hX a ha) (fun p hp => by
          rw [u2_at]
          by_cases hpk : p = i + k
          · rw [if_pos hpk, if_pos (by omega), show p - i = k by omega]
          · rw [if_neg hpk, hX2 p hp]
            by_cases h1 : i ≤ p ∧ p < i + k
            · rw [if_pos h1, if_pos (by omega)]
            · rw [if_neg h1, if_neg (by omega)])
  refine wp_aload_n d_Mod_put_0 rfl 0 rfl ?_
  refine wp_iload_n d_Mod_put_1 rfl 1 rfl ?_
  refine wp_iconst (v := nI 0) d_Mod_put_2 (by decide) ?_
  refine wp_sipush (v := nI 1599) d_Mod_put_3 (by decide) ?_
  refine wp_callV (r := 1) d_Mod_put_6 (link_S (av := [.int (nI i), .int (nI 0), .int (nI 1599)]) (rest := [.ref o]) d_Mod_put_6 cal_Mod_in wM_Mod_115 rfl) cal_Mod_in (c_Mod_inT (by omega) (by omega) (by omega)) (Nat.le_of_ble_eq_true rfl) ⟨Nat.le_of_ble_eq_true rfl, Nat.le_of_ble_eq_true rfl⟩ ?_
  refine wp_if_eqB (tgt := 16) d_Mod_put_9 (by decide) (fun c => absurd c (by decide)) (fun _ => ?_)
  refine wp_iconst (v := nI 0) d_Mod_put_12 (by decide) ?_
  refine wp_goto (tgt := 17) d_Mod_put_13 (by decide) ?_
  refine wm_put (Fi' := va_up Fi 0 (nI 0)) d_Mod_put_17 0 (by decide) wF_Mod_111 rfl (by decide) rfl ?_
  refine wp_aload_n d_Mod_put_20 rfl 0 rfl ?_
  refine wm_get d_Mod_put_21 0 (by decide) wF_Mod_111 rfl ?_
  refine wp_toI (z := (nI 0)) (rfl) ?_
  refine wp_if_leN (tgt := 28) d_Mod_put_24 (by decide) (by omega) (fun _ => ?_) (fun c => absurd c (by decide))
  refine wp_aload_n d_Mod_put_28 rfl 0 rfl ?_
  refine wm_get d_Mod_put_29 3 (by decide) wF_Mod_7 rfl ?_
  refine wp_aload_n d_Mod_put_32 rfl 0 rfl ?_
  refine wm_get d_Mod_put_33 2 (by decide) wF_Mod_133 rfl ?_
  refine wp_toI (z := (nI n)) (hn) ?_
  refine wp_iload_n d_Mod_put_36 rfl 1 rfl ?_
  refine wm_ist (j := 3) d_Mod_put_37 hI (by decide) (by decide) (by show _ < 8000; omega) (by decide) ?_
  refine wp_aload_n d_Mod_put_38 rfl 0 rfl ?_
  refine wm_get d_Mod_put_39 4 (by decide) wF_Mod_13 rfl ?_
  refine wp_aload_n d_Mod_put_42 rfl 0 rfl ?_
  refine wm_get d_Mod_put_43 2 (by decide) wF_Mod_133 rfl ?_
  refine wp_toI (z := (nI n)) (hn) ?_
  refine wp_iload_n d_Mod_put_46 rfl 2 rfl ?_
  refine wm_ist (j := 4) d_Mod_put_47 hI (by decide) (by decide) (by show _ < 8000; omega) (by decide) ?_
  refine wp_aload_n d_Mod_put_48 rfl 0 rfl ?_
  refine wp_dup d_Mod_put_49 rfl ?_
  refine wm_get d_Mod_put_50 2 (by decide) wF_Mod_133 rfl ?_
  refine wp_toI (z := (nI n)) (hn) ?_
  refine wp_iconst (v := nI 1) d_Mod_put_53 (by decide) ?_
  refine wp_iaddN d_Mod_put_54 ?_
  refine wm_put (Fi' := va_up (va_up Fi 0 (nI 0)) 2 (nI (n + 1))) d_Mod_put_55 2 (by decide) wF_Mod_133 rfl (by decide) rfl ?_
  refine wp_iconst (v := nI 0) d_Mod_put_58 (by decide) ?_
  refine wp_istore_n (lv' := [(3, .int (nI 0)), (0, .ref o), (1, .int (nI i)), (2, .int v)]) d_Mod_put_59 rfl (by decide) rfl ?_
  exact L2 5 0 _ (by omega) (by omega) (fun a _ => rfl) (fun p hp => by rw [if_neg (by omega)]; rfl)
theorem CallE.up {G : Gt} {y : Mi} {d w d' w' : Nat} {av : List Value} {h : AHp} {v : Option Value} {P P' : AHp → Prop} (hc : CallE G y d w av h 0 0 v P) (hd : d ≤ d') (hw : w ≤ w') (hP : ∀ h', P h' → P' h') : CallE G y d' w' av h 0 0 v P' :=
  CallS.mono hc hd hw (Nat.le_refl _) (Nat.le_refl _) (fun _ _ q => ⟨q.1, hP _ q.2⟩)
theorem c_Mod_put {G : Gt} {o : Nat} {A : Nat → Nat} {Fi : Nat → Int32} {M : Nat → Nat → Int32} {Ml : Nat → Nat → Int64} {s : Sa} {n : Nat} (hI : mInj o A) (hR : RepM s Fi M Ml) (hV : Inv n s) (x v : Int32) : CallE G m_Mod_put 1 15 [.ref o, .int x, .int v] (hM o A Fi M Ml) 0 0 none (RefOK o A (stPut s x v)) := by
  cases hx : inZ x (nI 0) (nI 1599) with
  | false =>
    rw [show stPut s x v = (1, 0, s) by unfold stPut; rw [hx]; rfl]
    exact CallR.E (CallR.up (c_Mod_put0 hx) (by decide) (by decide)) ⟨_, _, _, rfl, hR, rfl⟩
  | true =>
    obtain ⟨i, _, hi, rfl⟩ := inZ_w (by decide) (by decide) hx
    rw [show stPut s (nI i) v = (0, 0, wLog s ((i, v) :: sLog s)) by unfold stPut; rw [if_pos hx, nN_nI (by omega)]]
    have hlog := hV.2.1.2.1
    have hn := hV.1
    refine CallE.up (c_Mod_put1 hI (by omega) hR.fi.2.1 (by omega)) (by decide) (by decide) (fun h' q => ?_)
    obtain ⟨M', rfl, h1, h2⟩ := q
    obtain ⟨r1, r2, r3, r4, r5, r6, r7, r8, r9, r10, r11⟩ := hR
    have e : ∀ a, a ≠ 3 → a ≠ 4 → a ≠ 5 → M' a = M a := fun a x3 x4 x5 => by rw [h1 a x5, u2_ne _ _ x4, u2_ne _ _ x3]
    refine ⟨_, _, _, rfl, ⟨⟨r1.1, ?_, r1.2.2.1, r1.2.2.2⟩, ⟨fun k p hp => ?_, fun p hp => ?_⟩, ?_, ?_, ?_, ?_, ?_, ?_, ?_, ?_, ?_⟩, rfl⟩
    · exact congrArg nI (List.length_cons).symm
    · rw [show sLog (wLog s ((i, v) :: sLog s)) = (i, v) :: sLog s from rfl, List.reverse_cons] at hp
      rw [h1 3 (by decide), h1 4 (by decide), u2_ne _ _ (show 3 ≠ 4 by decide), u2_at, u2_at, u2_ne _ _ (show 4 ≠ 3 by decide)]
      by_cases hk : k = (sLog s).length
      · subst hk
        rw [if_pos rfl, if_pos rfl]
        simp at hp
        rw [← hp]
        exact ⟨rfl, rfl⟩
      · rw [if_neg hk, if_neg hk]
        have hlt : k < (sLog s).reverse.length := by
          have := (List.getElem?_eq_some_iff.mp hp).1
          simp at this
          simp
          omega
        rw [List.getElem?_append_left hlt] at hp
        exact r2.1 k p hp
    · rw [h2 p hp]
      show _ = nI (txtR ((i, v) :: sLog s) p)
      unfold txtR
      by_cases h3 : i ≤ p ∧ p < i + 4
      · rw [if_pos h3, if_pos h3]
      · rw [if_neg h3, if_neg h3]
        exact r2.2 p hp
    · rw [e 6 (by decide) (by decide) (by decide), e 7 (by decide) (by decide) (by decide), e 8 (by decide) (by decide) (by decide), e 9 (by decide) (by decide) (by decide)]; exact r3
    · rw [e 10 (by decide) (by decide) (by decide), e 12 (by decide) (by decide) (by decide), e 13 (by decide) (by decide) (by decide), e 14 (by decide) (by decide) (by decide)]; exact r4
    · rw [e 16 (by decide) (by decide) (by decide), e 17 (by decide) (by decide) (by decide), e 18 (by decide) (by decide) (by decide), e 19 (by decide) (by decide) (by decide)]; exact r5
    · rw [e 21 (by decide) (by decide) (by decide)]; exact r6
    · rw [e 23 (by decide) (by decide) (by decide)]; exact r7
    · rw [e 24 (by decide) (by decide) (by decide), e 25 (by decide) (by decide) (by decide), e 26 (by decide) (by decide) (by decide), e 27 (by decide) (by decide) (by decide), e 28 (by decide) (by decide) (by decide), e 29 (by decide) (by decide) (by decide), e 30 (by decide) (by decide) (by decide), e 31 (by decide) (by decide) (by decide), e 32 (by decide) (by decide) (by decide)]; exact r8
    · rw [e 33 (by decide) (by decide) (by decide)]; exact r9
    · rw [e 34 (by decide) (by decide) (by decide)]; exact r10
    · rw [e 35 (by decide) (by decide) (by decide), e 36 (by decide) (by decide) (by decide)]; exact r11
end Mod15
