section Cls5
theorem wCl_B : GoodIn lw_tbl [Cond.methodLink "java/util/Arrays" 310 ⟨"[B", "clone", "()Ljava/lang/Object;"⟩, .sameMethod "[B" "java/lang/Object" "clone" "()Ljava/lang/Object;", .native ⟨"java/lang/Object", "clone", "()Ljava/lang/Object;"⟩, .instanceMethod ⟨"java/lang/Object", "clone", "()Ljava/lang/Object;"⟩, .selects "[B" ⟨"[B", "clone", "()Ljava/lang/Object;"⟩ ⟨"java/lang/Object", "clone", "()Ljava/lang/Object;"⟩] := goodIn_r _ [635, 636, 637, 638, 639] (by decide +kernel) (by decide +kernel)
theorem wCc_B : Cond.castable "[B" "java/lang/Cloneable" ∈ lw_tbl := List.mem_of_getElem? (i := 640) (by decide +kernel)
theorem wCk_B : GoodIn lw_tbl [Cond.classLink "java/util/Arrays" 311 "[B"] := goodIn_r _ [641] (by decide +kernel) (by decide +kernel)
theorem wCa_B : GoodIn lw_tbl [Cond.arrayClass .byte] := goodIn_r _ [101] (by decide +kernel) (by decide +kernel)
theorem wCy_B : GoodIn lw_tbl [Cond.methodLink "java/util/Arrays" 150 arraycopyName, .native arraycopyName, .static arraycopyName, .initialized "java/lang/System"] := goodIn_r _ [643, 645, 644, 60] (by decide +kernel) (by decide +kernel)
theorem wCl_J : GoodIn lw_tbl [Cond.methodLink "java/util/Arrays" 319 ⟨"[J", "clone", "()Ljava/lang/Object;"⟩, .sameMethod "[J" "java/lang/Object" "clone" "()Ljava/lang/Object;", .native ⟨"java/lang/Object", "clone", "()Ljava/lang/Object;"⟩, .instanceMethod ⟨"java/lang/Object", "clone", "()Ljava/lang/Object;"⟩, .selects "[J" ⟨"[J", "clone", "()Ljava/lang/Object;"⟩ ⟨"java/lang/Object", "clone", "()Ljava/lang/Object;"⟩] := goodIn_r _ [651, 652, 637, 638, 653] (by decide +kernel) (by decide +kernel)
theorem wCc_J : Cond.castable "[J" "java/lang/Cloneable" ∈ lw_tbl := List.mem_of_getElem? (i := 654) (by decide +kernel)
theorem wCk_J : GoodIn lw_tbl [Cond.classLink "java/util/Arrays" 320 "[J"] := goodIn_r _ [655] (by decide +kernel) (by decide +kernel)
theorem wCa_J : GoodIn lw_tbl [Cond.arrayClass .long] := goodIn_r _ [102] (by decide +kernel) (by decide +kernel)
theorem wCy_J : GoodIn lw_tbl [Cond.methodLink "java/util/Arrays" 150 arraycopyName, .native arraycopyName, .static arraycopyName, .initialized "java/lang/System"] := goodIn_r _ [643, 645, 644, 60] (by decide +kernel) (by decide +kernel)
theorem cpyW : 0 + (nativeFrameWords "java/lang/System" "arraycopy" 5 + 11) ≤ 30 := by decide +kernel
def hs1 (a : Nat) (o : AObj) : AHp := hup (fun _ => none) a o
theorem hs1_a {a : Nat} {o : AObj} : hs1 a o a = some o := hup_eq _ _ _
theorem hs1_o {a q : Nat} {o : AObj} (h : q ≠ a) : hs1 a o q = none := hup_ne h
theorem hs1_d {a : Nat} {o : AObj} : ∀ q, hs1 a o q ≠ none → q = a := fun q h => Classical.byContradiction fun z => h (hs1_o z)
theorem hs1_n {a q : Nat} {o : AObj} (h : hs1 a o q = none) : q ≠ a := fun e => by rw [e, hs1_a] at h; cases h
theorem hup_a {a q : Nat} {o o2 : AObj} (h : hs1 a o q = none) : hup (hs1 a o) q o2 a = some o := by rw [hup_ne (Ne.symm (hs1_n h)), hs1_a]
theorem hs2_d {a q : Nat} {o o2 : AObj} (h : hs1 a o q = none) : ∀ p, hup (hs1 a o) q o2 p ≠ none → p = a ∨ p = q := by
  intro p hp
  rcases hup_dom hp with h1 | h1
  · exact Or.inr h1
  · exact Or.inl (hs1_d p h1)
theorem hup_hup (h : AHp) (a : Nat) (o o2 : AObj) : hup (hup h a o) a o2 = hup h a o2 := by
  funext p
  by_cases hp : p = a
  · subst hp
    rw [hup_eq, hup_eq]
  · rw [hup_ne hp, hup_ne hp, hup_ne hp]
theorem wp_n0 {G : Gt} {y : Mi} {B : Bt} {pc : Nat} {lv : List (Nat × Value)} {st : List Value} {h : AHp} {n : Nat} (kk : WP G y B pc lv st h (0 + 1) (0 + n)) : WP G y B pc lv st h 1 n := by rw [Nat.zero_add] at kk; rw [Nat.zero_add] at kk; exact kk
theorem wp_nA {G : Gt} {y : Mi} {B : Bt} {pc : Nat} {lv : List (Nat × Value)} {st : List Value} {h : AHp} {n : Nat} (kk : WP G y B pc lv st h (0 + 1) (0 + n)) : WP G y B pc lv st h 1 n := wp_n0 kk
set_option maxRecDepth 20000 in
theorem c_Arrays_copyOfS {G : Gt}  {a len n : Nat} {f : Nat → Int32} (hf : ∀ i, fits .byte (.int (f i)) = true) (hn : n ≤ len) (hlen : len ≤ 1600) : CallS G m_Arrays_copyOf 1 30 [.ref a, .int (nI n)] (hs1 a (.inl (2, len, .inl f))) 1 n (fun r h' => ∃ (q : Nat) (g : Nat → Int32), q ≠ a ∧ r = .inl (some (.ref q)) ∧ (∀ i, i < n → g i = f i) ∧ h' = hup (hs1 a (.inl (2, len, .inl f))) q (.inl (2, n, .inl g))) := by
  refine CallS.of (Nat.le_of_ble_eq_true rfl) ?_
  refine wp_iload_n d_Arrays_copyOf_0 rfl 1 rfl ?_
  refine wp_aload_n d_Arrays_copyOf_1 rfl 0 rfl ?_
  refine wp_alen (N := 0) (v := nI len) d_Arrays_copyOf_2 hs1_a rfl rfl ?_
  refine wp_neN (tgt := 14) d_Arrays_copyOf_3 (by decide) (by omega) (by omega) (fun c3 => ?_) (fun c3 => ?_)
  · refine wp_iload_n d_Arrays_copyOf_14 rfl 1 rfl ?_
    refine wp_nA ?_
    refine wp_newa (t := 2) (N := n) (a0 := (n, .inl fun _ => 0)) d_Arrays_copyOf_15 rfl rfl (fun C h9 => by cases h9) wCa_B (fun cA => rfl) (nI_pos (by omega)) (nI_clamp (by omega)) (by show n * 1 ≤ _; omega) (fun q1 hq1 => ?_)
    refine wp_astore_n (lv' := [(2, .ref q1), (0, .ref a), (1, .int (nI n))]) d_Arrays_copyOf_17 rfl (by decide) rfl ?_
    refine wp_aload_n d_Arrays_copyOf_18 rfl 1 rfl ?_
    refine wp_iconst (v := nI 0) d_Arrays_copyOf_19 (by decide) ?_
    refine wp_aload_n d_Arrays_copyOf_20 rfl 0 rfl ?_
    refine wp_iconst (v := nI 0) d_Arrays_copyOf_21 (by decide) ?_
    refine wp_aload_n d_Arrays_copyOf_22 rfl 1 rfl ?_
    refine wp_alen (N := 0) (v := nI len) d_Arrays_copyOf_23 (hup_a hq1) rfl rfl ?_
    refine wp_iload_n d_Arrays_copyOf_24 rfl 2 rfl ?_
    refine wp_callVF (r := 4) d_Arrays_copyOf_25 (link_SF (av := [.int (nI len), .int (nI n)]) (rest := [.int (nI 0), .ref q1, .int (nI 0), .ref a]) d_Arrays_copyOf_25 cal_Math_min wM_Arr_304 rfl) cal_Math_min (c_Math_min (by omega) (by omega)) (Nat.le_of_ble_eq_true rfl) ⟨Nat.le_of_ble_eq_true rfl, Nat.le_of_ble_eq_true rfl⟩ ?_
    refine wp_toI (z := (nI n)) (congrArg nI (by omega)) ?_
    refine wp_copyi (nn := n) d_Arrays_copyOf_28 (hs2_d hq1) (Ne.symm (hs1_n hq1)) (hup_a hq1) (hup_eq _ _ _) rfl rfl wCy_B (by omega) (by omega) (by omega) (fun i _ => hf i) ⟨Nat.le_of_ble_eq_true rfl, cpyW⟩ ?_
    refine wp_aload_n d_Arrays_copyOf_31 rfl 0 rfl ?_
    exact wp_aret d_Arrays_copyOf_32 rfl (Or.inr ⟨_, rfl⟩) (Or.inr ⟨_, rfl⟩) ⟨q1, _, hs1_n hq1, rfl, fun i hi => by show (if 0 ≤ i ∧ i < 0 + n then _ else _) = _; rw [if_pos (by omega)]; congr 1; omega, hup_hup _ _ _ _⟩
  · refine wp_aload_n d_Arrays_copyOf_6 rfl 0 rfl ?_
    obtain rfl : n = len := by omega
    refine wp_n0 ?_
    refine wp_clone1 (k := 0) (n := 0) (x := (n, .inl f)) d_Arrays_copyOf_7 hs1_d hs1_a rfl wCl_B wCc_B (fun U cA hr => va_nm_byte hr) (fun cA i v hv => va_fit (fun j _ => hf j) i v hv) ⟨Nat.le_of_ble_eq_true rfl, Nat.le_of_ble_eq_true rfl⟩ (fun q1 hq1 => ?_)
    refine wp_castA d_Arrays_copyOf_10 (hup_eq _ _ _) rfl wCk_B (fun U cA hr => va_nm_byte hr) ?_
    exact wp_aret d_Arrays_copyOf_13 rfl (Or.inr ⟨_, rfl⟩) (Or.inr ⟨_, rfl⟩) ⟨q1, f, hs1_n hq1, rfl, fun _ _ => rfl, rfl⟩
set_option maxRecDepth 20000 in
theorem c_Arrays_copyOf1S {G : Gt}  {a len n : Nat} {f : Nat → Int64} (hn : n ≤ len) (hlen : len ≤ 1600) : CallS G m_Arrays_copyOf1 1 30 [.ref a, .int (nI n)] (hs1 a (.inl (1, len, .inr (.inl f)))) 1 n (fun r h' => ∃ (q : Nat) (g : Nat → Int64), q ≠ a ∧ r = .inl (some (.ref q)) ∧ (∀ i, i < n → g i = f i) ∧ h' = hup (hs1 a (.inl (1, len, .inr (.inl f)))) q (.inl (1, n, .inr (.inl g)))) := by
  refine CallS.of (Nat.le_of_ble_eq_true rfl) ?_
  refine wp_iload_n d_Arrays_copyOf1_0 rfl 1 rfl ?_
  refine wp_aload_n d_Arrays_copyOf1_1 rfl 0 rfl ?_
  refine wp_alen (N := 0) (v := nI len) d_Arrays_copyOf1_2 hs1_a rfl rfl ?_
  refine wp_neN (tgt := 14) d_Arrays_copyOf1_3 (by decide) (by omega) (by omega) (fun c3 => ?_) (fun c3 => ?_)
  · refine wp_iload_n d_Arrays_copyOf1_14 rfl 1 rfl ?_
    refine wp_nA ?_
    refine wp_newa (t := 1) (N := n) (a0 := (n, .inr (.inl fun _ => 0))) d_Arrays_copyOf1_15 rfl rfl (fun C h9 => by cases h9) wCa_J (fun cA => rfl) (nI_pos (by omega)) (nI_clamp (by omega)) (by show n * 8 ≤ _; omega) (fun q1 hq1 => ?_)
    refine wp_astore_n (lv' := [(2, .ref q1), (0, .ref a), (1, .int (nI n))]) d_Arrays_copyOf1_17 rfl (by decide) rfl ?_
    refine wp_aload_n d_Arrays_copyOf1_18 rfl 1 rfl ?_
    refine wp_iconst (v := nI 0) d_Arrays_copyOf1_19 (by decide) ?_
    refine wp_aload_n d_Arrays_copyOf1_20 rfl 0 rfl ?_
    refine wp_iconst (v := nI 0) d_Arrays_copyOf1_21 (by decide) ?_
    refine wp_aload_n d_Arrays_copyOf1_22 rfl 1 rfl ?_
    refine wp_alen (N := 0) (v := nI len) d_Arrays_copyOf1_23 (hup_a hq1) rfl rfl ?_
    refine wp_iload_n d_Arrays_copyOf1_24 rfl 2 rfl ?_
    refine wp_callVF (r := 4) d_Arrays_copyOf1_25 (link_SF (av := [.int (nI len), .int (nI n)]) (rest := [.int (nI 0), .ref q1, .int (nI 0), .ref a]) d_Arrays_copyOf1_25 cal_Math_min wM_Arr_304 rfl) cal_Math_min (c_Math_min (by omega) (by omega)) (Nat.le_of_ble_eq_true rfl) ⟨Nat.le_of_ble_eq_true rfl, Nat.le_of_ble_eq_true rfl⟩ ?_
    refine wp_toI (z := (nI n)) (congrArg nI (by omega)) ?_
    refine wp_copyl (nn := n) d_Arrays_copyOf1_28 (hs2_d hq1) (Ne.symm (hs1_n hq1)) (hup_a hq1) (hup_eq _ _ _) rfl rfl wCy_J (by omega) (by omega) (by omega) (fun i _ => rfl) ⟨Nat.le_of_ble_eq_true rfl, cpyW⟩ ?_
    refine wp_aload_n d_Arrays_copyOf1_31 rfl 0 rfl ?_
    exact wp_aret d_Arrays_copyOf1_32 rfl (Or.inr ⟨_, rfl⟩) (Or.inr ⟨_, rfl⟩) ⟨q1, _, hs1_n hq1, rfl, fun i hi => by show (if 0 ≤ i ∧ i < 0 + n then _ else _) = _; rw [if_pos (by omega)]; congr 1; omega, hup_hup _ _ _ _⟩
  · refine wp_aload_n d_Arrays_copyOf1_6 rfl 0 rfl ?_
    obtain rfl : n = len := by omega
    refine wp_n0 ?_
    refine wp_clone1 (k := 0) (n := 0) (x := (n, .inr (.inl f))) d_Arrays_copyOf1_7 hs1_d hs1_a rfl wCl_J wCc_J (fun U cA hr => va_nm_long hr) (fun cA i v hv => va_fit (fun j _ => rfl) i v hv) ⟨Nat.le_of_ble_eq_true rfl, Nat.le_of_ble_eq_true rfl⟩ (fun q1 hq1 => ?_)
    refine wp_castA d_Arrays_copyOf1_10 (hup_eq _ _ _) rfl wCk_J (fun U cA hr => va_nm_long hr) ?_
    exact wp_aret d_Arrays_copyOf1_13 rfl (Or.inr ⟨_, rfl⟩) (Or.inr ⟨_, rfl⟩) ⟨q1, f, hs1_n hq1, rfl, fun _ _ => rfl, rfl⟩
theorem cN_Arrays_copyOf {G : Gt} {K N : Nat → Nat} {I : Nat → Nat → Int32} {R : Nat → Nat → Option Nat} {L : Nat → Nat → Int64} {E : Nat → Nat → Int32} {El : Nat → Nat → Int64} {Er : Nat → Nat → Option Nat} {a len n : Nat} (hk : K a = 20 + 2) (hNa : N a = len) (hf : ∀ i, fits .byte (.int (E a i)) = true) (hn : n ≤ len) (hlen : len ≤ 1600) : CallS G m_Arrays_copyOf 1 30 [.ref a, .int (nI n)] (hN K N I R L E El Er) 1 n (fun r h' => ∃ (q : Nat) (g : Nat → Int32), K q = 0 ∧ r = .inl (some (.ref q)) ∧ (∀ i, i < n → g i = E a i) ∧ h' = hN (va_up K q (20 + 2)) (va_up N q n) I R L (va_up E q g) El Er) := by
  have ha : hN K N I R L E El Er a = some (.inl (2, len, .inl (E a))) := by rw [hN_a hk, hNa]; rfl
  have hD : Dj (hs1 a (.inl (2, len, .inl (E a)))) (fun p => if p = a then none else hN K N I R L E El Er p) := fun q hq => by rw [hs1_d q hq]; exact if_pos rfl
  have e : hor (hs1 a (.inl (2, len, .inl (E a)))) (fun p => if p = a then none else hN K N I R L E El Er p) = hN K N I R L E El Er := by
    funext p
    by_cases hp : p = a
    · subst hp
      rw [hor_l hs1_a, ha]
    · rw [hor_r (hs1_o hp), if_neg hp]
  have := (c_Arrays_copyOfS (G := G) (f := E a) hf hn hlen).frame hD
  rw [e] at this
  refine this.mono (Nat.le_refl _) (Nat.le_refl _) (Nat.le_refl _) (Nat.le_refl _) (fun r h' hq => ?_)
  obtain ⟨h1, ⟨q, g, hqa, hr, hg, rfl⟩, rfl, hD1⟩ := hq
  have hq0 : hN K N I R L E El Er q = none := by
    have := hD1 q (by rw [hup_eq]; simp)
    exact (if_neg hqa).symm.trans this
  have hK0 := hN_0.mp hq0
  refine ⟨q, g, hK0, hr, hg, ?_⟩
  funext p
  by_cases hp : p = q
  · subst hp
    rw [hor_l (hup_eq _ _ _), hN_a (t := 2) (by simp [va_up])]
    simp [va_up, arN]
  · by_cases hpa : p = a
    · subst hpa
      rw [hor_l (by rw [hup_ne hp]; exact hs1_a), hN_a (t := 2) (by simp [va_up, hp, hk])]
      simp [va_up, arN, hp, hNa]
    · rw [hor_r (by rw [hup_ne hp]; exact hs1_o hpa), if_neg hpa]
      unfold hN arN
      simp [va_up, hp]
theorem cN_Arrays_copyOf1 {G : Gt} {K N : Nat → Nat} {I : Nat → Nat → Int32} {R : Nat → Nat → Option Nat} {L : Nat → Nat → Int64} {E : Nat → Nat → Int32} {El : Nat → Nat → Int64} {Er : Nat → Nat → Option Nat} {a len n : Nat} (hk : K a = 20 + 1) (hNa : N a = len) (hn : n ≤ len) (hlen : len ≤ 1600) : CallS G m_Arrays_copyOf1 1 30 [.ref a, .int (nI n)] (hN K N I R L E El Er) 1 n (fun r h' => ∃ (q : Nat) (g : Nat → Int64), K q = 0 ∧ r = .inl (some (.ref q)) ∧ (∀ i, i < n → g i = El a i) ∧ h' = hN (va_up K q (20 + 1)) (va_up N q n) I R L E (va_up El q g) Er) := by
  have ha : hN K N I R L E El Er a = some (.inl (1, len, .inr (.inl (El a)))) := by rw [hN_a hk, hNa]; rfl
  have hD : Dj (hs1 a (.inl (1, len, .inr (.inl (El a))))) (fun p => if p = a then none else hN K N I R L E El Er p) := fun q hq => by rw [hs1_d q hq]; exact if_pos rfl
  have e : hor (hs1 a (.inl (1, len, .inr (.inl (El a))))) (fun p => if p = a then none else hN K N I R L E El Er p) = hN K N I R L E El Er := by
    funext p
    by_cases hp : p = a
    · subst hp
      rw [hor_l hs1_a, ha]
    · rw [hor_r (hs1_o hp), if_neg hp]
  have := (c_Arrays_copyOf1S (G := G) (f := El a) hn hlen).frame hD
  rw [e] at this
  refine this.mono (Nat.le_refl _) (Nat.le_refl _) (Nat.le_refl _) (Nat.le_refl _) (fun r h' hq => ?_)
  obtain ⟨h1, ⟨q, g, hqa, hr, hg, rfl⟩, rfl, hD1⟩ := hq
  have hq0 : hN K N I R L E El Er q = none := by
    have := hD1 q (by rw [hup_eq]; simp)
    exact (if_neg hqa).symm.trans this
  have hK0 := hN_0.mp hq0
  refine ⟨q, g, hK0, hr, hg, ?_⟩
  funext p
  by_cases hp : p = q
  · subst hp
    rw [hor_l (hup_eq _ _ _), hN_a (t := 1) (by simp [va_up])]
    simp [va_up, arN]
  · by_cases hpa : p = a
    · subst hpa
      rw [hor_l (by rw [hup_ne hp]; exact hs1_a), hN_a (t := 1) (by simp [va_up, hp, hk])]
      simp [va_up, arN, hp, hNa]
    · rw [hor_r (by rw [hup_ne hp]; exact hs1_o hpa), if_neg hpa]
      unfold hN arN
      simp [va_up, hp]
end Cls5
