section Mod25
theorem byI_sub (b : Nat) : nI b - nI 1 = byI b := by
  unfold byI
  split
  · rename_i h
    subst h
    decide
  · rename_i h
    obtain ⟨c, rfl⟩ : ∃ c, b = c + 1 := ⟨b - 1, by omega⟩
    rw [nI_m]
    rfl
theorem RCp_erase {cs : List (Nat × Nat × Nat × Nat)} {X : Nat → Nat → Int32} (h : RCp cs (X 23)) {i : Nat} (hi : i < cs.length) : RCp (cs.eraseIdx i) (shL X 23 i (cs.length - 1) 23) := by
  intro j c hj
  rw [shL_at]
  have hlt : j < cs.length - 1 := by
    have := (List.getElem?_eq_some_iff.mp hj).1
    rw [List.length_eraseIdx, if_pos hi] at this
    exact this
  rw [List.getElem?_eraseIdx] at hj
  by_cases hji : j < i
  · rw [if_pos hji] at hj
    rw [if_neg (by omega)]
    exact h j c hj
  · rw [if_neg hji] at hj
    rw [if_pos (by omega)]
    exact h (j + 1) c hj
theorem rep_goes {s : Sa} {F : Nat → Int32} {X : Nat → Nat → Int32} {Ml : Nat → Nat → Int64} (h : RepM s F X Ml) {i : Nat} (hi : i < (sCp s).length) : RepM (wCp s ((sCp s).eraseIdx i)) (va_up F 22 (nI ((sCp s).length - 1))) (shL X 23 i ((sCp s).length - 1)) Ml := by
  obtain ⟨r1, r2, r3, r4, r5, r6, r7, r8, r9, r10, r11⟩ := h
  refine ⟨⟨r1.1, r1.2.1, r1.2.2.1, ?_⟩, r2, r3, r4, r5, r6, RCp_erase r7 hi, r8, r9, r10, r11⟩
  show nI _ = nI ((sCp s).eraseIdx i).length
  rw [List.length_eraseIdx, if_pos hi]
theorem comesS_cp {s : Sa} {x m set by1 : Nat} (hC : CI s) (hm : 1 ≤ m ∧ m ≤ (sMs s).length) : ∃ e, sCp (comesS s x m set by1) = sCp s ++ e := by
  have hf := CF_loop (x := x) (by1 := by1) (set := set) (as := ((sMs s).getD (m - 1) (0, [], 0, 0)).2.1) hC hm (cntOf s m) (Nat.le_refl _)
  obtain ⟨⟨f1, f2, f3, f4, f5, f6, f7⟩, _⟩ := hf
  rw [comesS_eq]
  simp only
  rw [show ((sMs s).getD (m - 1) (0, [], 0, 0)).2.1.length = cntOf s m from rfl]
  generalize comeLoop x m by1 ((sMs s).getD (m - 1) (0, [], 0, 0)).2.1 set (cntOf s m) (s, fun _ => 0) = q at f4 ⊢
  refine ⟨shareCopies q.1 x m q.2 8 ++ (if q.2 8 = 0 then [] else [(16 + x, m, q.2 8, by1)]), ?_⟩
  show sCp q.1 ++ shareCopies q.1 x m q.2 8 ++ (if q.2 8 = 0 then [] else [(16 + x, m, q.2 8, by1)]) = _
  rw [f4, List.append_assoc]
theorem countP_erase {α : Type} {p : α → Bool} : ∀ {l : List α} {i : Nat}, l.countP p ≤ (l.eraseIdx i).countP p + 1
  | [], i => by simp
  | a :: l, 0 => by
    rw [List.eraseIdx_cons_zero, List.countP_cons]
    split <;> omega
  | a :: l, i + 1 => by
    have := countP_erase (p := p) (l := l) (i := i)
    rw [List.eraseIdx_cons_succ, List.countP_cons, List.countP_cons]
    omega
set_option maxRecDepth 20000 in
theorem l_Mod_relA {G : Gt} {B : Bt} {o : Nat} {A : Nat → Nat} {Fi : Nat → Int32} {M : Nat → Nat → Int32} {Ml : Nat → Nat → Int64} (hI : mInj o A) {cs : List (Nat × Nat × Nat × Nat)} (hb : bCp cs) (hn : Fi 22 = nI cs.length) (hcp : RCp cs (M 23)) {x : Nat} (hx : x < 6) (KK : WP G m_Mod_release B 42 [(3, .int (nI (cs.length))), (2, .int (nI (cs.countP (fun c => c.1 == 16 + x)))), (0, .ref o), (1, .int (nI x))] [] (hM o A Fi M Ml) 0 0) : ∀ (f i q : Nat), cs.length - i < f → i ≤ cs.length → q = (cs.take i).countP (fun c => c.1 == 16 + x) → WP G m_Mod_release B 4 [(3, .int (nI i)), (2, .int (nI q)), (0, .ref o), (1, .int (nI x))] [] (hM o A Fi M Ml) 0 0 := by
  have hlen := hb.1
  intro f
  induction f with
  | zero =>
    intro i q h1
    omega
  | succ f ih =>
    intro i q hf hi hq
    refine wp_iload_n d_Mod_release_4 rfl 0 rfl ?_
    refine wp_aload_n d_Mod_release_5 rfl 2 rfl ?_
    refine wm_get d_Mod_release_6 22 (by decide) wF_Mod_202 rfl ?_
    refine wp_toI (z := (nI (cs.length))) (hn) ?_
    refine wp_geN (tgt := 42) d_Mod_release_9 (by decide) (by omega) (by omega) (fun c9 => ?_) (fun c9 => ?_)
    · obtain rfl : i = cs.length := by omega
      rw [List.take_length] at hq
      subst hq
      exact KK
    · obtain ⟨c, hc⟩ := get_of c9
      have hcb := encC_ok (hb.2 c (List.mem_of_getElem? hc))
      have hcb1 := (hb.2 c (List.mem_of_getElem? hc)).1
      refine wp_iload_n d_Mod_release_12 rfl 1 rfl ?_
      refine wp_aload_n d_Mod_release_13 rfl 2 rfl ?_
      refine wm_get d_Mod_release_14 23 (by decide) wF_Mod_66 rfl ?_
      refine wp_iload_n d_Mod_release_17 rfl 0 rfl ?_
      refine wm_ild (j := 23) (x := (nI (encC c))) d_Mod_release_18 hI (by decide) (by decide) (by show _ < 2000; omega) (by decide) (hcp i c hc) ?_
      refine wp_bipush (v := nI 20) d_Mod_release_19 (by decide) ?_
      refine wp_ishrN d_Mod_release_21 (by omega) (by omega) ?_
      refine wp_toI (z := (nI (c.1))) (congrArg nI hcb.1) ?_
      refine wp_bipush (v := nI 16) d_Mod_release_22 (by decide) ?_
      refine wp_iload_n d_Mod_release_24 rfl 3 rfl ?_
      refine wp_iaddN d_Mod_release_25 ?_
      refine wp_neN (tgt := 33) d_Mod_release_26 (by decide) (by omega) (by omega) (fun c26 => ?_) (fun c26 => ?_)
      · refine wp_iconst (v := nI 0) d_Mod_release_33 (by decide) ?_
        refine wp_iaddN d_Mod_release_34 ?_
        refine wp_istore_n (lv' := [(2, .int (nI (q + 0))), (3, .int (nI i)), (0, .ref o), (1, .int (nI x))]) d_Mod_release_35 rfl (by decide) rfl ?_
        refine wp_iinc (lv' := [(3, .int (nI (i + 1))), (2, .int (nI (q + 0))), (0, .ref o), (1, .int (nI x))]) d_Mod_release_36 1 rfl (nI_1 _) (by decide) rfl ?_
        refine wp_goto (tgt := 4) d_Mod_release_39 (by decide) ?_
        exact ih (i + 1) (q + 0) (by omega) (by omega) (by rw [cntT hc, hq]; simp [c26])
      · refine wp_iconst (v := nI 1) d_Mod_release_29 (by decide) ?_
        refine wp_goto (tgt := 34) d_Mod_release_30 (by decide) ?_
        refine wp_iaddN d_Mod_release_34 ?_
        refine wp_istore_n (lv' := [(2, .int (nI (q + 1))), (3, .int (nI i)), (0, .ref o), (1, .int (nI x))]) d_Mod_release_35 rfl (by decide) rfl ?_
        refine wp_iinc (lv' := [(3, .int (nI (i + 1))), (2, .int (nI (q + 1))), (0, .ref o), (1, .int (nI x))]) d_Mod_release_36 1 rfl (nI_1 _) (by decide) rfl ?_
        refine wp_goto (tgt := 4) d_Mod_release_39 (by decide) ?_
        exact ih (i + 1) (q + 1) (by omega) (by omega) (by rw [cntT hc, hq]; simp [c26])
set_option maxRecDepth 20000 in
theorem l_Mod_relC {G : Gt} {B : Bt} {o : Nat} {A : Nat → Nat} {Fi : Nat → Int32} {M : Nat → Nat → Int32} {Ml : Nat → Nat → Int64} (hI : mInj o A) {cs : List (Nat × Nat × Nat × Nat)} (hb : bCp cs) (hn : Fi 22 = nI cs.length) (hcp : RCp cs (M 23)) {x : Nat} (hx : x < 6) {mn nn i : Nat} (hfi : cs.findIdx? (fun c => c.1 == 16 + x) = some i) (KK : WP G m_Mod_release B 75 [(4, .int (nI i)), (0, .ref o), (1, .int (nI x)), (2, .int (nI mn)), (3, .int (nI nn))] [] (hM o A Fi M Ml) 0 0) : ∀ (f k : Nat), i - k < f → k ≤ i → WP G m_Mod_release B 52 [(4, .int (nI k)), (0, .ref o), (1, .int (nI x)), (2, .int (nI mn)), (3, .int (nI nn))] [] (hM o A Fi M Ml) 0 0 := by
  have hlen := hb.1
  obtain ⟨ci, hci, hpi, _, hbef⟩ := findIdx_get hfi
  have hil : i < cs.length := (List.getElem?_eq_some_iff.mp hci).1
  intro f
  induction f with
  | zero =>
    intro k h1
    omega
  | succ f ih =>
    intro k hf hk
    obtain ⟨c, hc⟩ := get_of (l := cs) (i := k) (by omega)
    have hcb := encC_ok (hb.2 c (List.mem_of_getElem? hc))
    have hcb1 := (hb.2 c (List.mem_of_getElem? hc)).1
    refine wp_aload_n d_Mod_release_52 rfl 1 rfl ?_
    refine wm_get d_Mod_release_53 23 (by decide) wF_Mod_66 rfl ?_
    refine wp_iload d_Mod_release_56 0 rfl ?_
    refine wm_ild (j := 23) (x := (nI (encC c))) d_Mod_release_58 hI (by decide) (by decide) (by show _ < 2000; omega) (by decide) (hcp k c hc) ?_
    refine wp_bipush (v := nI 20) d_Mod_release_59 (by decide) ?_
    refine wp_ishrN d_Mod_release_61 (by omega) (by omega) ?_
    refine wp_toI (z := (nI (c.1))) (congrArg nI hcb.1) ?_
    refine wp_bipush (v := nI 16) d_Mod_release_62 (by decide) ?_
    refine wp_iload_n d_Mod_release_64 rfl 2 rfl ?_
    refine wp_iaddN d_Mod_release_65 ?_
    refine wp_eqN (tgt := 75) d_Mod_release_66 (by decide) (by omega) (by omega) (fun c66 => ?_) (fun c66 => ?_)
    · refine wp_lv [0, 1, 2, 3, 4] rfl ?_
      have hki : k = i := by
        rcases Nat.lt_or_ge k i with h | h
        · have h2 := hbef k c h hc
          simp at h2
          exact absurd c66 h2
        · omega
      subst hki
      exact KK
    · refine wp_iinc (lv' := [(4, .int (nI (k + 1))), (0, .ref o), (1, .int (nI x)), (2, .int (nI mn)), (3, .int (nI nn))]) d_Mod_release_69 0 rfl (nI_1 _) (by decide) rfl ?_
      refine wp_goto (tgt := 52) d_Mod_release_72 (by decide) ?_
      refine wp_lv [0, 1, 2, 3, 4] rfl ?_
      refine ih (k + 1) ?_ ?_
      · have : k < i := (by rcases Nat.lt_or_ge k i with h | h; (exact h); (exact absurd (show c.1 = 16 + x by obtain rfl : k = i := (by omega); rw [hc] at hci; cases hci; simpa using hpi) c66))
        omega
      · have : k < i := (by rcases Nat.lt_or_ge k i with h | h; (exact h); (exact absurd (show c.1 = 16 + x by obtain rfl : k = i := (by omega); rw [hc] at hci; cases hci; simpa using hpi) c66))
        omega
theorem find_some {α : Type} {l : List α} {p : α → Bool} (h : 0 < l.countP p) : ∃ i, l.findIdx? p = some i := by
  cases hf : l.findIdx? p with
  | some i => exact ⟨i, rfl⟩
  | none =>
    rw [List.findIdx?_eq_none_iff] at hf
    rw [List.countP_pos_iff] at h
    obtain ⟨a, ha, hp⟩ := h
    rw [hf a ha] at hp
    cases hp
set_option maxRecDepth 20000 in
theorem l_Mod_relB {G : Gt} {B : Bt} {o : Nat} {A : Nat → Nat} {Ml : Nat → Nat → Int64} (hI : mInj o A) {x mn n0 : Nat} (hx : x < 6) (hmn : mn ≤ 2000) {s0 : Sa} {v0 : Int32} (hB : 2 ≤ Bd B ∧ 37 ≤ Bw B) (KK : ∀ F X, RepM (releaseN x mn s0) F X Ml → F 0 = v0 → WP G m_Mod_release B 124 [] [] (hM o A F X Ml) 0 0) : ∀ (f nn : Nat) (t : Sa) (F : Nat → Int32) (X : Nat → Nat → Int32), mn - nn < f → nn ≤ mn → releaseN x mn s0 = releaseN x (mn - nn) t → mn - nn ≤ (sCp t).countP (fun c => c.1 == 16 + x) → Inv n0 t → RepM t F X Ml → F 0 = v0 → WP G m_Mod_release B 44 [(3, .int (nI nn)), (2, .int (nI mn)), (0, .ref o), (1, .int (nI x))] [] (hM o A F X Ml) 0 0 := by
  intro f
  induction f with
  | zero =>
    intro nn t F X h1
    omega
  | succ f ih =>
    intro nn t F X hf hnn hre hcnt hV hX hF
    have hb := c_bCp hV
    have hlen := hb.1
    refine wp_iload_n d_Mod_release_44 rfl 0 rfl ?_
    refine wp_iload_n d_Mod_release_45 rfl 1 rfl ?_
    refine wp_geN (tgt := 124) d_Mod_release_46 (by decide) (by omega) (by omega) (fun c46 => ?_) (fun c46 => ?_)
    · refine wp_lv [] rfl ?_
      rw [show mn - nn = 0 by omega] at hre
      exact KK F X (by rw [hre]; exact hX) hF
    · refine wp_iconst (v := nI 0) d_Mod_release_49 (by decide) ?_
      refine wp_istore (lv' := [(4, .int (nI 0)), (3, .int (nI nn)), (2, .int (nI mn)), (0, .ref o), (1, .int (nI x))]) d_Mod_release_50 (by decide) rfl ?_
      obtain ⟨i, hfi⟩ := find_some (p := fun c => c.1 == 16 + x) (l := sCp t) (by omega)
      obtain ⟨c, hc, hpc, hgd, _⟩ := findIdx_get hfi
      have hil : i < (sCp t).length := (List.getElem?_eq_some_iff.mp hc).1
      have hcm := List.mem_of_getElem? hc
      have hcb := encC_ok (hb.2 c hcm)
      have hcd := hb.2 c hcm
      have hok := hV.2.2.1.2.2.1 c hcm
      refine wp_lv [0, 3, 4, 2, 1] rfl ?_
      refine l_Mod_relC hI hb hX.fi.2.2.2 hX.cp hx hfi ?_ (i + 1) 0 (by omega) (by omega)
      refine wp_aload_n d_Mod_release_75 rfl 1 rfl ?_
      refine wm_get d_Mod_release_76 23 (by decide) wF_Mod_66 rfl ?_
      refine wp_iload d_Mod_release_79 0 rfl ?_
      refine wm_ild (j := 23) (x := (nI (encC c))) d_Mod_release_81 hI (by decide) (by decide) (by show _ < 2000; omega) (by decide) (hX.cp i c hc) ?_
      refine wp_istore (lv' := [(5, .int (nI (encC c))), (4, .int (nI i)), (0, .ref o), (1, .int (nI x)), (2, .int (nI mn)), (3, .int (nI nn))]) d_Mod_release_82 (by decide) rfl ?_
      refine wp_aload_n d_Mod_release_84 rfl 2 rfl ?_
      refine wp_iload d_Mod_release_85 1 rfl ?_
      refine wp_callU (r := 0) d_Mod_release_87 (link_V (as := [.int (nI i)]) (rest := []) (r := (R_Mod, T_Mod, 43)) d_Mod_release_87 cal_Mod_goes wM_Mod_219 rfl hM_o rfl) cal_Mod_goes (c_Mod_goes hI hX.fi.2.2.2 hlen hil) (Nat.le_of_ble_eq_true rfl) ⟨by have := hB.1; omega, Nat.le_trans (Nat.le_of_ble_eq_true rfl) hB.2⟩ ?_
      refine wp_aload_n d_Mod_release_90 rfl 2 rfl ?_
      refine wp_iload_n d_Mod_release_91 rfl 3 rfl ?_
      refine wp_iload d_Mod_release_92 0 rfl ?_
      refine wp_bipush (v := nI 12) d_Mod_release_94 (by decide) ?_
      refine wp_ishrN d_Mod_release_96 (by omega) (by omega) ?_
      refine wp_sipush (v := nI 255) d_Mod_release_97 (by decide) ?_
      refine wp_iandM (c := 8) d_Mod_release_100 (by omega) (by decide) ?_
      refine wp_toI (z := (nI (c.2.1))) (congrArg nI hcb.2.1) ?_
      refine wp_iload d_Mod_release_101 0 rfl ?_
      refine wp_iconst (v := nI 4) d_Mod_release_103 (by decide) ?_
      refine wp_ishrN d_Mod_release_104 (by omega) (by omega) ?_
      refine wp_bipush (v := nI 127) d_Mod_release_105 (by decide) ?_
      refine wp_iandM (c := 7) d_Mod_release_107 (by omega) (by decide) ?_
      refine wp_toI (z := (nI (c.2.2.1))) (congrArg nI hcb.2.2.1) ?_
      refine wp_iload d_Mod_release_108 0 rfl ?_
      refine wp_bipush (v := nI 15) d_Mod_release_110 (by decide) ?_
      refine wp_iandM (c := 4) d_Mod_release_112 (by omega) (by decide) ?_
      refine wp_toI (z := (nI (c.2.2.2))) (congrArg nI hcb.2.2.2.1) ?_
      refine wp_iconst (v := nI 1) d_Mod_release_113 (by decide) ?_
      refine wp_isub d_Mod_release_114 ?_
      refine wp_toI (z := (byI c.2.2.2)) (byI_sub _) ?_
      refine wp_callEU (k' := 0) (n' := 0) (r := 0) d_Mod_release_115 (link_V (as := [.int (nI x), .int (nI (c.2.1)), .int (nI (c.2.2.1)), .int (byI c.2.2.2)]) (rest := []) (r := (R_Mod, T_Mod, 43)) d_Mod_release_115 cal_Mod_comes wM_Mod_198 rfl hM_o rfl) cal_Mod_comes (c_Mod_comes hI (rep_goes hX hil) (erase_B hV.B).CI ((erase_B hV.B).CS x) hx ⟨hok.2.2.1.1, hok.2.2.1.2.1⟩ hcd.2.2.1 hok.2.2.2.2 (c_bCp (comes_again hV hx hc)).1) (Nat.le_of_ble_eq_true rfl) ⟨by have := hB.1; omega, Nat.le_trans (Nat.le_of_ble_eq_true rfl) hB.2⟩ (fun h' q115 => ?_)
      obtain ⟨F2, X2, rfl, hX2, hF2⟩ := q115
      refine wp_iinc (lv' := [(3, .int (nI (nn + 1))), (5, .int (nI (encC c))), (4, .int (nI i)), (0, .ref o), (1, .int (nI x)), (2, .int (nI mn))]) d_Mod_release_118 5 rfl (nI_1 _) (by decide) rfl ?_
      refine wp_goto (tgt := 44) d_Mod_release_121 (by decide) ?_
      refine wp_lv [0, 5, 3, 4] rfl ?_
      refine ih (nn + 1) _ F2 X2 (by omega) (by omega) ?_ ?_ (comes_again hV hx hc) hX2 (hF2.trans hF)
      · rw [hre, show mn - nn = (mn - (nn + 1)) + 1 by omega, releaseN_s, hfi]
        simp only [hgd]
      · obtain ⟨e, he⟩ := comesS_cp (s := wCp t ((sCp t).eraseIdx i)) (x := x) (set := c.2.2.1) (by1 := c.2.2.2) (erase_B hV.B).CI ⟨hok.2.2.1.1, hok.2.2.1.2.1⟩
        rw [he, List.countP_append]
        have h9 : (sCp t).countP (fun c => c.1 == 16 + x) ≤ ((sCp t).eraseIdx i).countP (fun c => c.1 == 16 + x) + 1 := countP_erase
        show _ ≤ ((sCp t).eraseIdx i).countP _ + _
        omega
set_option maxRecDepth 20000 in
theorem c_Mod_release {G : Gt} {o : Nat} {A : Nat → Nat} {Fi : Nat → Int32} {M : Nat → Nat → Int32} {Ml : Nat → Nat → Int64} {s : Sa} (hI : mInj o A) {n : Nat} (hR : RepM s Fi M Ml) (hV : Inv n s) {x : Nat} (hx : x < 6) : CallE G m_Mod_release 2 37 [.ref o, .int (nI x)] (hM o A Fi M Ml) 0 0 none (fun h' => ∃ F' X', h' = hM o A F' X' Ml ∧ RepM (releaseS s x) F' X' Ml ∧ F' 0 = Fi 0) := by
  have hb := c_bCp hV
  refine CallS.of (Nat.le_of_ble_eq_true rfl) ?_
  refine wp_iconst (v := nI 0) d_Mod_release_0 (by decide) ?_
  refine wp_istore_n (lv' := [(2, .int (nI 0)), (0, .ref o), (1, .int (nI x))]) d_Mod_release_1 rfl (by decide) rfl ?_
  refine wp_iconst (v := nI 0) d_Mod_release_2 (by decide) ?_
  refine wp_istore_n (lv' := [(3, .int (nI 0)), (2, .int (nI 0)), (0, .ref o), (1, .int (nI x))]) d_Mod_release_3 rfl (by decide) rfl ?_
  refine wp_lv [0, 1, 2, 3] rfl ?_
  refine l_Mod_relA hI hb hR.fi.2.2.2 hR.cp hx ?_ ((sCp s).length + 1) 0 0 (by omega) (by omega) rfl
  refine wp_iconst (v := nI 0) d_Mod_release_42 (by decide) ?_
  refine wp_istore_n (lv' := [(3, .int (nI 0)), (2, .int (nI ((sCp s).countP (fun c => c.1 == 16 + x)))), (0, .ref o), (1, .int (nI x))]) d_Mod_release_43 rfl (by decide) rfl ?_
  refine wp_lv [0, 1, 2, 3] rfl ?_
  refine l_Mod_relB (n0 := n) (s0 := s) (v0 := Fi 0) hI hx (Nat.le_trans List.countP_le_length hb.1) ⟨Nat.le_of_ble_eq_true rfl, Nat.le_of_ble_eq_true rfl⟩ (fun F X hX hF => ?_) ((sCp s).countP (fun c => c.1 == 16 + x) + 1) 0 s Fi M (by omega) (by omega) rfl (Nat.le_refl _) hV hR rfl
  exact wp_vret d_Mod_release_124 rfl ⟨rfl, _, _, rfl, hX, hF⟩
end Mod25
