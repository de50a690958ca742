section Cls9
/-- the number of letters, the first one being the lowest byte -/
def leN : List Nat → Nat
  | [] => 0
  | b :: l => b + 256 * leN l
def leT (t : Nat → Nat) (a : Nat) : Nat → Nat
  | 0 => 0
  | k + 1 => leT t a k + t (a + k) * 2 ^ (8 * k)
theorem leT_lt {t : Nat → Nat} (ht : ∀ p, t p < 256) (a : Nat) : ∀ k, leT t a k < 2 ^ (8 * k)
  | 0 => by rw [leT]; decide
  | k + 1 => by
    have h1 := leT_lt ht a k
    have h2 : t (a + k) ≤ 255 := by have := ht (a + k); omega
    have h3 : t (a + k) * 2 ^ (8 * k) ≤ 255 * 2 ^ (8 * k) := Nat.mul_le_mul_right _ h2
    rw [leT, show 8 * (k + 1) = 8 * k + 8 by omega, Nat.pow_add]
    omega
theorem le_64 {t : Nat → Nat} (ht : ∀ p, t p < 256) (a : Nat) {k : Nat} (hk : k < 8) : leT t a k < 2 ^ 64 ∧ t (a + k) * 2 ^ (8 * k) < 2 ^ 64 := by
  have h1 := leT_lt ht a (k + 1)
  have h2 : (2 : Nat) ^ (8 * (k + 1)) ≤ 2 ^ 64 := Nat.pow_le_pow_right (by decide) (by omega)
  rw [leT] at h1
  constructor <;> omega
theorem le_or {t : Nat → Nat} (ht : ∀ p, t p < 256) (a k : Nat) : leT t a k ||| t (a + k) * 2 ^ (8 * k) = leT t a (k + 1) := by
  rw [Nat.or_comm, or_add (leT_lt ht a k), leT, Nat.add_comm]
theorem land_255 : ∀ c : Nat, c < 256 → lN c &&& 255 = lN c := by decide +kernel
theorem leN_eight {t : Nat → Nat} {ln a : Nat} (h : ∀ k, k < 8 → isLet (gv t ln (a + k)) = true) : leN (eight (gv t ln) a) = leT t a 8 := by
  rw [eight_t h]
  simp [leN, leT, List.range, List.range.loop]
  omega
theorem leN_lt : ∀ {l : List Nat}, (∀ b ∈ l, b < 256) → leN l < 256 ^ l.length
  | [], _ => by decide
  | b :: l, h => by
    have h1 := leN_lt (l := l) (fun c hc => h c (List.mem_cons_of_mem _ hc))
    have h2 := h b List.mem_cons_self
    rw [leN, List.length_cons, Nat.pow_succ]
    omega
theorem leN_inj : ∀ {l m : List Nat}, l.length = m.length → (∀ b ∈ l, b < 256) → (∀ b ∈ m, b < 256) → leN l = leN m → l = m
  | [], m, h1, _, _, _ => (List.length_eq_zero_iff.mp h1.symm).symm
  | b :: l, [], h1, _, _, _ => by simp at h1
  | b :: l, c :: m, h1, h2, h3, h4 => by
    have hl : l.length = m.length := by simpa using h1
    have hb := h2 b List.mem_cons_self
    have hc := h3 c List.mem_cons_self
    rw [leN, leN] at h4
    have e1 : b = c := by omega
    have e2 : leN l = leN m := by omega
    rw [e1, leN_inj hl (fun x hx => h2 x (List.mem_cons_of_mem _ hx)) (fun x hx => h3 x (List.mem_cons_of_mem _ hx)) e2]
theorem ad8_ll {x : List Nat} (h : ad8 x) : leN x < 2 ^ 64 := by
  have := leN_lt (l := x) (fun b hb => by have := h.2 b hb; omega)
  rw [h.1] at this
  omega
theorem ad8_leq {x z : List Nat} (hx : ad8 x) (hz : ad8 z) : lN (leN x) = lN (leN z) ↔ x = z := by
  rw [lN_inj (ad8_ll hx) (ad8_ll hz)]
  exact ⟨fun h => leN_inj (hx.1.trans hz.1.symm) (fun b hb => by have := hx.2 b hb; omega) (fun b hb => by have := hz.2 b hb; omega) h, fun h => by rw [h]⟩
set_option maxRecDepth 20000 in
theorem c_Drf_lettersFrom {G : Gt} {K N : Nat → Nat} {I : Nat → Nat → Int32} {R : Nat → Nat → Option Nat} {L : Nat → Nat → Int64} {E : Nat → Nat → Int32} {El : Nat → Nat → Int64} {Er : Nat → Nat → Option Nat} {d b da : Nat} {t : Nat → Nat} {ln : Nat} (hJ : Jd K N I R E d b da t ln) {a : Nat} (hlet : ∀ k, k < 8 → isLet (gv t ln (a + k)) = true) (hab : a < 2 ^ 18) : CallR G m_Drf_lettersFrom 1 15 [.ref d, .int (nI a)] (hN K N I R L E El Er) 0 0 (some (.long (lN (leN (eight (gv t ln) a))))) (hN K N I R L E El Er) := by
  refine CallS.of (Nat.le_of_ble_eq_true rfl) ?_
  have L2 : ∀ (f k : Nat), 8 - k < f → k ≤ 8 → WP G m_Drf_lettersFrom (1, 15, 0, 0, (hN K N I R L E El Er), fun r9 h9 => r9 = .inl (some (.long (lN (leN (eight (gv t ln) a))))) ∧ h9 = (hN K N I R L E El Er)) 5 [(4, .int (nI k)), (2, .long (lN (leT t a k))), (0, .ref d), (1, .int (nI a))] [] (hN K N I R L E El Er) 0 0 := by
    intro f
    induction f with
    | zero =>
      intro k h1
      omega
    | succ f ih =>
      intro k hf hk
      refine wp_iload d_Drf_lettersFrom_5 0 rfl ?_
      refine wp_bipush (v := nI 8) d_Drf_lettersFrom_7 (by decide) ?_
      refine wp_geN (tgt := 40) d_Drf_lettersFrom_9 (by decide) (by omega) (by omega) (fun c9 => ?_) (fun c9 => ?_)
      · refine wp_lload_n d_Drf_lettersFrom_40 rfl 1 rfl ?_
        exact wp_lret d_Drf_lettersFrom_41 rfl ⟨by rw [leN_eight hlet, show k = 8 by omega], rfl⟩
      · refine wp_lload_n d_Drf_lettersFrom_12 rfl 1 rfl ?_
        refine wp_aload_n d_Drf_lettersFrom_13 rfl 2 rfl ?_
        refine wp_iload_n d_Drf_lettersFrom_14 rfl 3 rfl ?_
        refine wp_iload d_Drf_lettersFrom_15 0 rfl ?_
        refine wp_iaddN d_Drf_lettersFrom_17 ?_
        refine wp_callV (r := 2) d_Drf_lettersFrom_18 (link_V (as := [.int (nI (a + k))]) (rest := [.long (lN (leT t a k))]) (r := (R_Drf, T_Drf, 7)) d_Drf_lettersFrom_18 cal_Drf_byteAt wM_Drf_59 rfl (hN_o (hJ.kd) (by decide)) rfl) cal_Drf_byteAt (c_Drf_byteAt hJ (by omega)) (Nat.le_of_ble_eq_true rfl) ⟨Nat.le_of_ble_eq_true rfl, Nat.le_of_ble_eq_true rfl⟩ ?_
        have hx := (let_lt (hlet k (by omega))).1
        have ht := hJ.ht (a + k)
        have h64 := le_64 hJ.ht a (k := k) (by omega)
        refine wp_toI (z := (nI (t (a + k)))) ((gI_in hx).symm) ?_
        refine wp_i2lN d_Drf_lettersFrom_21 (by omega) ?_
        refine wp_ldc2 (v := 255) d_Drf_lettersFrom_22 wK_Drf_92 ?_
        refine wp_land d_Drf_lettersFrom_25 ?_
        refine wp_toL (z := lN (t (a + k))) (land_255 _ ht) ?_
        refine wp_bipush (v := nI 8) d_Drf_lettersFrom_26 (by decide) ?_
        refine wp_iload d_Drf_lettersFrom_28 0 rfl ?_
        refine wp_imulN d_Drf_lettersFrom_30 ?_
        refine wp_lshlN d_Drf_lettersFrom_31 (by omega) ?_
        refine wp_lorN d_Drf_lettersFrom_32 (by omega) (by omega) ?_
        refine wp_toL (z := lN (leT t a (k + 1))) (congrArg lN (le_or hJ.ht a k)) ?_
        refine wp_lstore_n (lv' := [(2, .long (lN (leT t a (k + 1)))), (4, .int (nI k)), (0, .ref d), (1, .int (nI a))]) d_Drf_lettersFrom_33 rfl (by decide) rfl ?_
        refine wp_iinc (lv' := [(4, .int (nI (k + 1))), (2, .long (lN (leT t a (k + 1)))), (0, .ref d), (1, .int (nI a))]) d_Drf_lettersFrom_34 1 rfl (nI_1 _) (by decide) rfl ?_
        refine wp_goto (tgt := 5) d_Drf_lettersFrom_37 (by decide) ?_
        exact ih (k + 1) (by omega) (by omega)
  refine wp_lconst (v := lN 0) d_Drf_lettersFrom_0 (by decide) ?_
  refine wp_lstore_n (lv' := [(2, .long (lN 0)), (0, .ref d), (1, .int (nI a))]) d_Drf_lettersFrom_1 rfl (by decide) rfl ?_
  refine wp_iconst (v := nI 0) d_Drf_lettersFrom_2 (by decide) ?_
  refine wp_istore (lv' := [(4, .int (nI 0)), (2, .long (lN 0)), (0, .ref d), (1, .int (nI a))]) d_Drf_lettersFrom_3 (by decide) rfl ?_
  exact L2 9 0 (by omega) (by omega)
set_option maxRecDepth 20000 in
theorem c_Drf_isThere {G : Gt} {K N : Nat → Nat} {I : Nat → Nat → Int32} {R : Nat → Nat → Option Nat} {L : Nat → Nat → Int64} {E : Nat → Nat → Int32} {El : Nat → Nat → Int64} {Er : Nat → Nat → Option Nat} {d b da : Nat} {t : Nat → Nat} {ln : Nat} (hJ : Jd K N I R E d b da t ln) {q : Nat} {as : List (List Nat)} {x8 : List Nat} (hql : as.length = q) (hq7 : q ≤ 7) (hq : I 23 d = nI q) (h8 : ad8 x8) (has : ∀ k x, as[k]? = some x → El da k = lN (leN x)) (had : ∀ x ∈ as, ad8 x) : CallR G m_Drf_isThere 0 0 [.ref d, .long (lN (leN x8))] (hN K N I R L E El Er) 0 0 (some (.int (bI (decide (x8 ∈ as))))) (hN K N I R L E El Er) := by
  refine CallS.of (Nat.le_of_ble_eq_true rfl) ?_
  have L2 : ∀ (f k : Nat), q - k < f → k ≤ q → (∀ i x, i < k → as[i]? = some x → x ≠ x8) → WP G m_Drf_isThere (0, 0, 0, 0, (hN K N I R L E El Er), fun r9 h9 => r9 = .inl (some (.int (bI (decide (x8 ∈ as))))) ∧ h9 = (hN K N I R L E El Er)) 2 [(3, .int (nI k)), (0, .ref d), (1, .long (lN (leN x8)))] [] (hN K N I R L E El Er) 0 0 := by
    intro f
    induction f with
    | zero =>
      intro k h1
      omega
    | succ f ih =>
      intro k hf hk hne
      refine wp_iload_n d_Drf_isThere_2 rfl 0 rfl ?_
      refine wp_aload_n d_Drf_isThere_3 rfl 1 rfl ?_
      refine wn_get_Drf d_Drf_isThere_4 (hJ.kd) 2 (by decide) wF_Drf_23 rfl ?_
      refine wp_toI (z := (nI q)) (hq) ?_
      refine wp_geN (tgt := 35) d_Drf_isThere_7 (by decide) (by omega) (by omega) (fun c7 => ?_) (fun c7 => ?_)
      · refine wp_iconst (v := nI 0) d_Drf_isThere_35 (by decide) ?_
        exact wp_zret (ty := .boolean) d_Drf_isThere_36 rfl rfl ⟨resI (bI_zero (decide_eq_false (fun hm8 => by obtain ⟨i, hi, e⟩ := List.mem_iff_getElem.mp hm8; exact hne i _ (by omega) (List.getElem?_eq_getElem hi) e))), rfl⟩
      · refine wp_iload_n d_Drf_isThere_10 rfl 0 rfl ?_
        refine wp_bipush (v := nI 7) d_Drf_isThere_11 (by decide) ?_
        refine wp_geN (tgt := 35) d_Drf_isThere_13 (by decide) (by omega) (by omega) (fun c13 => ?_) (fun c13 => ?_)
        · refine wp_iconst (v := nI 0) d_Drf_isThere_35 (by decide) ?_
          exact wp_zret (ty := .boolean) d_Drf_isThere_36 rfl rfl ⟨resI (bI_zero (decide_eq_false (fun hm8 => by obtain ⟨i, hi, e⟩ := List.mem_iff_getElem.mp hm8; exact hne i _ (by omega) (List.getElem?_eq_getElem hi) e))), rfl⟩
        · obtain ⟨xk, hxk⟩ : ∃ x, as[k]? = some x := ⟨_, List.getElem?_eq_getElem (by omega)⟩
          refine wp_aload_n d_Drf_isThere_16 rfl 1 rfl ?_
          refine wn_get_Drf d_Drf_isThere_17 (hJ.kd) 1 (by decide) wF_Drf_15 rfl ?_
          refine wp_toVR (o := some da) (z := .ref da) (hJ.ra) rfl ?_
          refine wp_iload_n d_Drf_isThere_20 rfl 0 rfl ?_
          refine wn_lld (x := (lN (leN xk))) d_Drf_isThere_21 (hJ.ka) (by rw [hJ.na]; omega) (by rw [hJ.na]; omega) (has k xk hxk) ?_
          refine wp_lload_n d_Drf_isThere_22 rfl 2 rfl ?_
          refine wp_lcmp d_Drf_isThere_23 ?_
          refine wp_if_neC (tgt := 29) d_Drf_isThere_24 (by decide) (fun c24 => ?_) (fun c24 => ?_)
          · refine wp_iinc (lv' := [(3, .int (nI (k + 1))), (0, .ref d), (1, .long (lN (leN x8)))]) d_Drf_isThere_29 0 rfl (nI_1 _) (by decide) rfl ?_
            refine wp_goto (tgt := 2) d_Drf_isThere_32 (by decide) ?_
            exact ih (k + 1) (by omega) (by omega) (fun i x hi hx => by
              rcases Nat.lt_or_ge i k with h | h
              · exact hne i x h hx
              · obtain rfl : i = k := by omega
                rw [hxk] at hx
                cases hx
                exact fun e => c24 (by rw [e]))
          · refine wp_iconst (v := nI 1) d_Drf_isThere_27 (by decide) ?_
            exact wp_zret (ty := .boolean) d_Drf_isThere_28 rfl rfl ⟨resI (bI_one (decide_eq_true (by rw [← (ad8_leq (had xk (List.mem_of_getElem? hxk)) h8).mp c24]; exact List.mem_of_getElem? hxk))), rfl⟩
  refine wp_iconst (v := nI 0) d_Drf_isThere_0 (by decide) ?_
  refine wp_istore_n (lv' := [(3, .int (nI 0)), (0, .ref d), (1, .long (lN (leN x8)))]) d_Drf_isThere_1 rfl (by decide) rfl ?_
  exact L2 8 0 (by omega) (by omega) (fun i x hi => absurd hi (by omega))
def vF (d : Nat) (I I' : Nat → Nat → Int32) : Prop := ∀ g q, (q ≠ d ∨ (g ≠ 23 ∧ g ≠ 26 ∧ g ≠ 27)) → I' g q = I g q
theorem vF_0 {d : Nat} {I : Nat → Nat → Int32} : vF d I I := fun _ _ _ => rfl
theorem vF.tr {d : Nat} {I I1 I2 : Nat → Nat → Int32} (h : vF d I I1) (h2 : vF d I1 I2) : vF d I I2 := fun g q hq => (h2 g q hq).trans (h g q hq)
theorem dF.v {d : Nat} {I I1 : Nat → Nat → Int32} (h : dF d I I1) : vF d I I1 := fun g q hq => h g q (by omega)
theorem vF_u {d g : Nat} {I : Nat → Nat → Int32} {x : Int32} (hg : g = 23 ∨ g = 26 ∨ g = 27) : vF d I (u2 I g d x) := by
  intro g2 q hq
  by_cases hd : q = d
  · rw [u2_ne _ _ (by omega)]
  · exact u2_q _ _ hd
def VPc (res : PR (Nat × List (List Nat))) (d da : Nat) (I : Nat → Nat → Int32) (El : Nat → Nat → Int64) (I' : Nat → Nat → Int32) (El' : Nat → Nat → Int64) : Prop := vF d I I' ∧ (∀ q, q ≠ da → El' q = El q) ∧
  (∀ b as, res = .inl (b, as) → I' 26 d = nI b ∧ I' 23 d = nI as.length ∧ (∀ k x, as[k]? = some x → El' da k = lN (leN x)) ∧ as.length ≤ 7 ∧ 0 < as.length ∧ ∀ x ∈ as, ad8 x) ∧ ∀ f, res = .inr f → I' 27 d = fltI f
theorem VPc_no {d da : Nat} {f : Nat × Nat} {I I' : Nat → Nat → Int32} {El El' : Nat → Nat → Int64} (h1 : vF d I I') (h2 : ∀ q, q ≠ da → El' q = El q) (h3 : I' 27 d = fltI f) : VPc (.inr f) d da I El I' El' := ⟨h1, h2, fun b as hb => (by cases hb), fun g hg => by cases hg; exact h3⟩
set_option maxRecDepth 20000 in
theorem c_Drf_readAddresses {G : Gt} {K N : Nat → Nat} {I : Nat → Nat → Int32} {R : Nat → Nat → Option Nat} {L : Nat → Nat → Int64} {E : Nat → Nat → Int32} {El : Nat → Nat → Int64} {Er : Nat → Nat → Option Nat} {d b da : Nat} {t : Nat → Nat} {ln : Nat} (hJ : Jd K N I R E d b da t ln) {a : Nat} (ha : I 26 d = nI a) (ha1 : 1 ≤ a) (hab : a < 100) (h23 : I 23 d = nI 0) : CallE G m_Drf_readAddresses 2 31 [.ref d] (hN K N I R L E El Er) 0 0 (some (.int (bI (pAddrs (gv t ln) 7 a []).isLeft))) (fun h' => ∃ I' El', h' = hN K N I' R L E El' Er ∧ VPc (pAddrs (gv t ln) 7 a []) d da I El I' El') := by
  refine CallS.of (Nat.le_of_ble_eq_true rfl) ?_
  have L2 : ∀ (f q a' : Nat) (F : Nat → Nat → Int32) (X : Nat → Nat → Int64) (as : List (List Nat)), 8 - q < f → as.length = q → q ≤ 7 → (1 ≤ a' ∧ a' ≤ a + 9 * q) → F 26 d = nI a' → F 23 d = nI q → vF d I F → (∀ z, z ≠ da → X z = El z) → (∀ k x, as[k]? = some x → X da k = lN (leN x)) → (∀ x ∈ as, ad8 x) → (q < 7 → pAddrs (gv t ln) 7 a [] = pAddrs (gv t ln) (7 - q) a' as) → (q = 7 → pAddrs (gv t ln) 7 a [] = .inr (a' - 1, 4)) → WP G m_Drf_readAddresses (2, 31, 0, 0, (hN K N I R L E El Er), fun r9 h9 => r9 = .inl (some (.int (bI (pAddrs (gv t ln) 7 a []).isLeft))) ∧ (fun h' => ∃ I' El', h' = hN K N I' R L E El' Er ∧ VPc (pAddrs (gv t ln) 7 a []) d da I El I' El') h9) 2 [(1, .int (nI q)), (0, .ref d)] [] (hN K N F R L E X Er) 0 0 := by
    intro f
    induction f with
    | zero =>
      intro q a' F X as h1 h2 h3
      omega
    | succ f ih =>
      intro q a' F X as hf hql hq7 haa hF hF23 hfr hX has had hp1 hend
      have hJ : Jd K N F R E d b da t ln := hJ.I (hfr 25 d (Or.inr ⟨by decide, by decide, by decide⟩))
      have hno1 : q < 7 → ∀ x, pLet (gv t ln) 2 8 a' = .inr x → pAddrs (gv t ln) 7 a [] = .inr x := fun h x hx => by rw [hp1 h, show 7 - q = (6 - q) + 1 by omega, pAddrs, hx]
      refine wp_iload_n d_Drf_readAddresses_2 rfl 0 rfl ?_
      refine wp_bipush (v := nI 7) d_Drf_readAddresses_3 (by decide) ?_
      refine wp_geN (tgt := 101) d_Drf_readAddresses_5 (by decide) (by omega) (by omega) (fun c5 => ?_) (fun c5 => ?_)
      · refine wp_aload_n d_Drf_readAddresses_101 rfl 1 rfl ?_
        refine wp_iconst (v := nI 4) d_Drf_readAddresses_102 (by decide) ?_
        refine wp_aload_n d_Drf_readAddresses_103 rfl 1 rfl ?_
        refine wn_get_Drf d_Drf_readAddresses_104 (hJ.kd) 5 (by decide) wF_Drf_74 rfl ?_
        refine wp_toI (z := (nI (a'))) (hF) ?_
        refine wp_iconst (v := nI 1) d_Drf_readAddresses_107 (by decide) ?_
        refine wp_isubN d_Drf_readAddresses_108 (by omega) ?_
        refine wp_callV (r := 0) d_Drf_readAddresses_109 (link_V (as := [.int (nI 4), .int (nI (a' - 1))]) (rest := []) (r := (R_Drf, T_Drf, 7)) d_Drf_readAddresses_109 cal_Drf_tell wM_Drf_70 rfl (hN_o (hJ.kd) (by decide)) rfl) cal_Drf_tell (c_Drf_tell (r := 4) (a := a' - 1) hJ.kd) (Nat.le_of_ble_eq_true rfl) ⟨Nat.le_of_ble_eq_true rfl, Nat.le_of_ble_eq_true rfl⟩ ?_
        exact wp_zret (ty := .boolean) d_Drf_readAddresses_112 rfl rfl ⟨resI (bI_zero (by rw [hend (by omega)]; rfl)), _, _, rfl, by rw [hend (by omega)]; exact VPc_no (hfr.tr (vF_u (Or.inr (Or.inr rfl)))) hX (by rw [u2_at, if_pos rfl])⟩
      · refine wp_aload_n d_Drf_readAddresses_8 rfl 1 rfl ?_
        refine wn_get_Drf d_Drf_readAddresses_9 (hJ.kd) 5 (by decide) wF_Drf_74 rfl ?_
        refine wp_toI (z := (nI (a'))) (hF) ?_
        refine wp_istore_n (lv' := [(2, .int (nI (a'))), (1, .int (nI q)), (0, .ref d)]) d_Drf_readAddresses_12 rfl (by decide) rfl ?_
        refine wp_aload_n d_Drf_readAddresses_13 rfl 2 rfl ?_
        refine wp_iconst (v := nI 2) d_Drf_readAddresses_14 (by decide) ?_
        refine wp_callEV (k' := 0) (n' := 0) (r := 0) d_Drf_readAddresses_15 (link_V (as := [.int (nI 2)]) (rest := []) (r := (R_Drf, T_Drf, 7)) d_Drf_readAddresses_15 cal_Drf_readLetters wM_Drf_80 rfl (hN_o (hJ.kd) (by decide)) rfl) cal_Drf_readLetters (c_Drf_readLetters (a := a') hJ hF (by omega)) (Nat.le_of_ble_eq_true rfl) ⟨Nat.le_of_ble_eq_true rfl, Nat.le_of_ble_eq_true rfl⟩ (fun h' q15 => ?_)
        obtain ⟨F1, rfl, hF1⟩ := q15
        have hJ1 : Jd K N F1 R E d b da t ln := hJ.I (hF1.1 25 d (Or.inr ⟨by decide, by decide⟩))
        refine wp_if_neB (tgt := 23) d_Drf_readAddresses_18 (by decide) (fun c18 => ?_) (fun c18 => ?_)
        · obtain ⟨b1, hb1⟩ := inl_of c18
          obtain ⟨rfl, hlet⟩ := pLet_inl hb1
          have hF40 := hF1.2.1 _ hb1
          have hF23 : F1 23 d = nI q := (hF1.1 23 d (Or.inr ⟨by decide, by decide⟩)).trans hF23
          have hno3 : eight (gv t ln) a' ∈ as → pAddrs (gv t ln) 7 a [] = .inr (a', 3) := fun h => by rw [hp1 (by omega), show 7 - q = (6 - q) + 1 by omega, pAddrs, hb1]; simp [h]
          have e10 : gI t ln (a' + 8) = nI 10 ↔ gv t ln (a' + 8) = 10 := gI_eq hJ.ht ln _ (by decide)
          refine wp_aload_n d_Drf_readAddresses_23 rfl 2 rfl ?_
          refine wp_iload_n d_Drf_readAddresses_24 rfl 0 rfl ?_
          refine wp_callV (r := 0) d_Drf_readAddresses_25 (link_V (as := [.int (nI (a'))]) (rest := []) (r := (R_Drf, T_Drf, 7)) d_Drf_readAddresses_25 cal_Drf_lettersFrom wM_Drf_84 rfl (hN_o (hJ.kd) (by decide)) rfl) cal_Drf_lettersFrom (c_Drf_lettersFrom hJ1 hlet (by omega)) (Nat.le_of_ble_eq_true rfl) ⟨Nat.le_of_ble_eq_true rfl, Nat.le_of_ble_eq_true rfl⟩ ?_
          refine wp_lstore_n (lv' := [(3, .long (lN (leN (eight (gv t ln) a')))), (2, .int (nI (a'))), (1, .int (nI q)), (0, .ref d)]) d_Drf_readAddresses_28 rfl (by decide) rfl ?_
          refine wp_aload_n d_Drf_readAddresses_29 rfl 3 rfl ?_
          refine wp_lload_n d_Drf_readAddresses_30 rfl 0 rfl ?_
          refine wp_callV (r := 0) d_Drf_readAddresses_31 (link_V (as := [.long (lN (leN (eight (gv t ln) a')))]) (rest := []) (r := (R_Drf, T_Drf, 7)) d_Drf_readAddresses_31 cal_Drf_isThere wM_Drf_88 rfl (hN_o (hJ.kd) (by decide)) rfl) cal_Drf_isThere (c_Drf_isThere hJ1 hql (by omega) hF23 (eight_ad hlet) has had) (Nat.le_of_ble_eq_true rfl) ⟨Nat.le_of_ble_eq_true rfl, Nat.le_of_ble_eq_true rfl⟩ ?_
          refine wp_if_eqB (tgt := 44) d_Drf_readAddresses_34 (by decide) (fun c34 => ?_) (fun c34 => ?_)
          · have hnm : eight (gv t ln) a' ∉ as := of_decide_eq_false c34
            have hok : eight (gv t ln) a' ∉ as → gv t ln (a' + 8) = 10 → pAddrs (gv t ln) 7 a [] = .inl (a' + 8 + 1, as ++ [eight (gv t ln) a']) := fun h h1 => by rw [hp1 (by omega), show 7 - q = (6 - q) + 1 by omega, pAddrs, hb1]; simp [h, h1]
            have hno2 : eight (gv t ln) a' ∉ as → ∀ x, pByte (gv t ln) 32 2 (a' + 8) = .inr x → ¬ gv t ln (a' + 8) = 10 → pAddrs (gv t ln) 7 a [] = .inr x := fun h x hx h1 => by
              unfold pByte at hx
              split at hx
              · cases hx
              · rename_i h2
                cases hx
                have h3 : ¬ gv t ln (a' + 8) = 32 := h2
                rw [hp1 (by omega), show 7 - q = (6 - q) + 1 by omega, pAddrs, hb1]
                simp [h, h1, h3]
            have hgo : eight (gv t ln) a' ∉ as → gv t ln (a' + 8) = 32 → q < 6 → pAddrs (gv t ln) 7 a [] = pAddrs (gv t ln) (7 - (q + 1)) (a' + 8 + 1) (as ++ [eight (gv t ln) a']) := fun h h1 h2 => by rw [hp1 (by omega), show 7 - q = ((5 - q) + 1) + 1 by omega, pAddrs, hb1, show 7 - (q + 1) = (5 - q) + 1 by omega]; simp [h, h1]
            have hg7 : eight (gv t ln) a' ∉ as → gv t ln (a' + 8) = 32 → q = 6 → pAddrs (gv t ln) 7 a [] = .inr (a' + 8, 4) := fun h h1 h2 => by rw [hp1 (by omega), show 7 - q = 0 + 1 by omega, pAddrs, hb1]; simp [h, h1]
            have hXa : ∀ z, z ≠ da → (u2l X da q (lN (leN (eight (gv t ln) a')))) z = El z := fun z hz => (u2l_ne _ _ hz).trans (hX z hz)
            have has1 : ∀ k x, (as ++ [eight (gv t ln) a'])[k]? = some x → (u2l X da q (lN (leN (eight (gv t ln) a')))) da k = lN (leN x) := fun k x hx => by
              rcases Nat.lt_or_ge k q with h | h
              · rw [u2l_at, if_neg (by omega)]
                exact has k x (by rwa [List.getElem?_append_left (by omega)] at hx)
              · have hlt := (List.getElem?_eq_some_iff.mp hx).1
                rw [List.length_append, List.length_singleton] at hlt
                obtain rfl : k = q := by omega
                rw [List.getElem?_append_right (by omega), hql, Nat.sub_self] at hx
                cases hx
                rw [u2l_at, if_pos rfl]
            have had1 : ∀ x ∈ as ++ [eight (gv t ln) a'], ad8 x := fun x hx => by
              rcases List.mem_append.mp hx with h | h
              · exact had x h
              · rw [List.mem_singleton.mp h]; exact eight_ad hlet
            have hJ2 : Jd K N (u2 F1 23 d (nI (q + 1))) R E d b da t ln := hJ1.I (by rw [u2_ne _ _ (by decide)])
            refine wp_aload_n d_Drf_readAddresses_44 rfl 3 rfl ?_
            refine wn_get_Drf d_Drf_readAddresses_45 (hJ.kd) 1 (by decide) wF_Drf_15 rfl ?_
            refine wp_toVR (o := some da) (z := .ref da) (hJ.ra) rfl ?_
            refine wp_iload_n d_Drf_readAddresses_48 rfl 2 rfl ?_
            refine wp_lload_n d_Drf_readAddresses_49 rfl 0 rfl ?_
            refine wn_lst d_Drf_readAddresses_50 (hJ.ka) (by rw [hJ.na]; omega) (by rw [hJ.na]; omega) ?_
            refine wp_aload_n d_Drf_readAddresses_51 rfl 3 rfl ?_
            refine wp_iload_n d_Drf_readAddresses_52 rfl 2 rfl ?_
            refine wp_iconst (v := nI 1) d_Drf_readAddresses_53 (by decide) ?_
            refine wp_iaddN d_Drf_readAddresses_54 ?_
            refine wn_put_Drf (ty := t_Drf 2) (I' := u2 F1 23 d (nI (q + 1))) (R' := R) (L' := L) d_Drf_readAddresses_55 (hJ.kd) 2 (by decide) wF_Drf_23 rfl (t_Drf_ok 2 (by decide)) rfl rfl sF_23 (oI _ _ _ 23 _) ?_
            refine wp_aload_n d_Drf_readAddresses_58 rfl 3 rfl ?_
            refine wp_aload_n d_Drf_readAddresses_59 rfl 3 rfl ?_
            refine wn_get_Drf d_Drf_readAddresses_60 (hJ.kd) 5 (by decide) wF_Drf_74 rfl ?_
            refine wp_toI (z := (nI (a' + 8))) (by rw [u2_ne _ _ (by decide)]; exact hF40) ?_
            refine wp_callV (r := 0) d_Drf_readAddresses_63 (link_V (as := [.int (nI (a' + 8))]) (rest := []) (r := (R_Drf, T_Drf, 7)) d_Drf_readAddresses_63 cal_Drf_byteAt wM_Drf_59 rfl (hN_o (hJ.kd) (by decide)) rfl) cal_Drf_byteAt (c_Drf_byteAt hJ2 (by omega)) (Nat.le_of_ble_eq_true rfl) ⟨Nat.le_of_ble_eq_true rfl, Nat.le_of_ble_eq_true rfl⟩ ?_
            refine wp_bipush (v := nI 10) d_Drf_readAddresses_66 (by decide) ?_
            refine wp_icmp_ne (tgt := 83) d_Drf_readAddresses_68 (by decide) (fun c68 => ?_) (fun c68 => ?_)
            · refine wp_aload_n d_Drf_readAddresses_83 rfl 3 rfl ?_
              refine wp_bipush (v := nI 32) d_Drf_readAddresses_84 (by decide) ?_
              refine wp_iconst (v := nI 2) d_Drf_readAddresses_86 (by decide) ?_
              refine wp_callEV (k' := 0) (n' := 0) (r := 0) d_Drf_readAddresses_87 (link_V (as := [.int (nI 32), .int (nI 2)]) (rest := []) (r := (R_Drf, T_Drf, 7)) d_Drf_readAddresses_87 cal_Drf_readByte wM_Drf_77 rfl (hN_o (hJ.kd) (by decide)) rfl) cal_Drf_readByte (c_Drf_readByte (a := a' + 8) hJ2 (by rw [u2_ne _ _ (by decide)]; exact hF40) (by omega) (by omega)) (Nat.le_of_ble_eq_true rfl) ⟨Nat.le_of_ble_eq_true rfl, Nat.le_of_ble_eq_true rfl⟩ (fun h' q87 => ?_)
              obtain ⟨F2, rfl, hF2⟩ := q87
              refine wp_if_neB (tgt := 95) d_Drf_readAddresses_90 (by decide) (fun c90 => ?_) (fun c90 => ?_)
              · obtain ⟨b3, hb3⟩ := inl_of c90
                obtain rfl := pByte_b hb3
                have h32 : gv t ln (a' + 8) = 32 := by
                  unfold pByte at hb3
                  split at hb3
                  · rename_i h9; exact h9
                  · cases hb3
                refine wp_iinc (lv' := [(1, .int (nI (q + 1))), (3, .long (lN (leN (eight (gv t ln) a')))), (2, .int (nI (a'))), (0, .ref d)]) d_Drf_readAddresses_95 2 rfl (nI_1 _) (by decide) rfl ?_
                refine wp_goto (tgt := 2) d_Drf_readAddresses_98 (by decide) ?_
                refine wp_lv [0, 3] rfl ?_
                exact ih (q + 1) (a' + 8 + 1) _ _ _ (by omega) (by rw [List.length_append, hql]; rfl) (by omega) (by omega) (hF2.2.1 _ hb3) (by rw [hF2.1 23 d (Or.inr ⟨by decide, by decide⟩), u2_at, if_pos rfl]) (((hfr.tr hF1.1.v).tr (vF_u (Or.inl rfl))).tr hF2.1.v) hXa has1 had1 (fun h => hgo hnm h32 (by omega)) (fun h => hg7 hnm h32 (by omega))
              · refine wp_iconst (v := nI 0) d_Drf_readAddresses_93 (by decide) ?_
                exact (inr_of c90).elim (fun x hx => wp_zret (ty := .boolean) d_Drf_readAddresses_94 rfl rfl ⟨resI (bI_zero (by rw [hno2 hnm x hx (fun z => c68 (e10.mpr z))]; rfl)), _, _, rfl, by rw [hno2 hnm x hx (fun z => c68 (e10.mpr z))]; exact VPc_no (((hfr.tr hF1.1.v).tr (vF_u (Or.inl rfl))).tr hF2.1.v) hXa (hF2.2.2 _ hx)⟩)
            · refine wp_aload_n d_Drf_readAddresses_71 rfl 3 rfl ?_
              refine wp_dup d_Drf_readAddresses_72 rfl ?_
              refine wn_get_Drf d_Drf_readAddresses_73 (hJ.kd) 5 (by decide) wF_Drf_74 rfl ?_
              refine wp_toI (z := (nI (a' + 8))) (by rw [u2_ne _ _ (by decide)]; exact hF40) ?_
              refine wp_iconst (v := nI 1) d_Drf_readAddresses_76 (by decide) ?_
              refine wp_iaddN d_Drf_readAddresses_77 ?_
              refine wn_put_Drf (ty := t_Drf 5) (I' := u2 (u2 F1 23 d (nI (q + 1))) 26 d (nI ((a' + 8) + 1))) (R' := R) (L' := L) d_Drf_readAddresses_78 (hJ.kd) 5 (by decide) wF_Drf_74 rfl (t_Drf_ok 5 (by decide)) rfl rfl sF_26 (oI _ _ _ 26 _) ?_
              refine wp_iconst (v := nI 1) d_Drf_readAddresses_81 (by decide) ?_
              exact wp_zret (ty := .boolean) d_Drf_readAddresses_82 rfl rfl ⟨resI (bI_one (by rw [hok hnm (e10.mp c68)]; rfl)), _, _, rfl, by rw [hok hnm (e10.mp c68)]; exact ⟨((hfr.tr hF1.1.v).tr (vF_u (Or.inl rfl))).tr (vF_u (Or.inr (Or.inl rfl))), hXa, fun b9 as9 h9 => by cases h9; exact ⟨by rw [u2_at, if_pos rfl], by rw [u2_ne _ _ (by decide), u2_at, if_pos rfl, List.length_append, hql]; rfl, has1, by rw [List.length_append, hql]; simp; omega, by simp, had1⟩, fun f hf => (by cases hf)⟩⟩
          · refine wp_aload_n d_Drf_readAddresses_37 rfl 3 rfl ?_
            refine wp_iconst (v := nI 3) d_Drf_readAddresses_38 (by decide) ?_
            refine wp_iload_n d_Drf_readAddresses_39 rfl 1 rfl ?_
            refine wp_callV (r := 0) d_Drf_readAddresses_40 (link_V (as := [.int (nI 3), .int (nI (a'))]) (rest := []) (r := (R_Drf, T_Drf, 7)) d_Drf_readAddresses_40 cal_Drf_tell wM_Drf_70 rfl (hN_o (hJ.kd) (by decide)) rfl) cal_Drf_tell (c_Drf_tell (r := 3) (a := a') hJ1.kd) (Nat.le_of_ble_eq_true rfl) ⟨Nat.le_of_ble_eq_true rfl, Nat.le_of_ble_eq_true rfl⟩ ?_
            exact wp_zret (ty := .boolean) d_Drf_readAddresses_43 rfl rfl ⟨resI (bI_zero (by rw [hno3 (of_decide_eq_true c34)]; rfl)), _, _, rfl, by rw [hno3 (of_decide_eq_true c34)]; exact VPc_no ((hfr.tr hF1.1.v).tr (vF_u (Or.inr (Or.inr rfl)))) hX (by rw [u2_at, if_pos rfl])⟩
        · refine wp_iconst (v := nI 0) d_Drf_readAddresses_21 (by decide) ?_
          exact (inr_of c18).elim (fun x hx => wp_zret (ty := .boolean) d_Drf_readAddresses_22 rfl rfl ⟨resI (bI_zero (by rw [hno1 (by omega) x hx]; rfl)), _, _, rfl, by rw [hno1 (by omega) x hx]; exact VPc_no (hfr.tr hF1.1.v) hX (hF1.2.2 _ hx)⟩)
  refine wp_iconst (v := nI 0) d_Drf_readAddresses_0 (by decide) ?_
  refine wp_istore_n (lv' := [(1, .int (nI 0)), (0, .ref d)]) d_Drf_readAddresses_1 rfl (by decide) rfl ?_
  exact L2 9 0 a I El [] (by omega) rfl (by omega) (by omega) ha h23 vF_0 (fun _ _ => rfl) (fun k x hx => by simp at hx) (fun x hx => by simp at hx) (fun _ => rfl) (fun h => absurd h (by omega))
end Cls9
