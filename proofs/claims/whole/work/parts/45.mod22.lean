section Mod22
/-- what the parting of a copy needs of the state -/
def CI (s : Sa) : Prop := (sMs s).length ≤ 200 ∧ (∀ m, sCm s m < 2 ^ cntOf s m) ∧ (∀ r ∈ sMs s, 1 ≤ r.2.1.length ∧ r.2.1.length ≤ 7) ∧ ∀ x, (sDk s x).Nodup ∧ ∀ m ∈ sDk s x, 1 ≤ m ∧ m ≤ (sMs s).length
theorem cnt_7 {s : Sa} (h : ∀ r ∈ sMs s, 1 ≤ r.2.1.length ∧ r.2.1.length ≤ 7) (m : Nat) : cntOf s m ≤ 7 := by
  unfold cntOf
  rw [List.getD_eq_getElem?_getD]
  cases hc : (sMs s)[m - 1]? with
  | none => exact Nat.zero_le _
  | some r => exact (h r (List.mem_of_getElem? hc)).2
theorem CI.cm {s : Sa} (h : CI s) (m : Nat) : sCm s m < 2 ^ 7 := Nat.lt_of_lt_of_le (h.2.1 m) (Nat.pow_le_pow_right (by decide) (cnt_7 h.2.2.1 m))
theorem or_and_add (x z : Nat) : (x ||| z) + (x &&& z) = x + z := by
  induction x using Nat.strongRecOn generalizing z with
  | _ x ih =>
    by_cases h0 : x = 0
    · subst h0
      simp
    · have e1 := Nat.div_add_mod x 2
      have e2 := Nat.div_add_mod z 2
      have ih2 := ih (x / 2) (by omega) (z / 2)
      have o1 := Nat.or_div_two (a := x) (b := z)
      have o2 := Nat.and_div_two (a := x) (b := z)
      have m1 := Nat.or_mod_two_pow (a := x) (b := z) (n := 1)
      have m2 := Nat.and_mod_two_pow (a := x) (b := z) (n := 1)
      have e3 := Nat.div_add_mod (x ||| z) 2
      have e4 := Nat.div_add_mod (x &&& z) 2
      rw [o1] at e3
      rw [o2] at e4
      rw [Nat.pow_one] at m1 m2
      rw [m1] at e3
      rw [m2] at e4
      have : (x % 2 ||| z % 2) + (x % 2 &&& z % 2) = x % 2 + z % 2 := by
        rcases Nat.mod_two_eq_zero_or_one x with hx | hx <;> rcases Nat.mod_two_eq_zero_or_one z with hz | hz <;> rw [hx, hz] <;> rfl
      omega
theorem or_bit {x k : Nat} (h : x.testBit k = false) : x ||| 2 ^ k = x + 2 ^ k := by
  have e : x &&& 2 ^ k = 0 := by
    apply Nat.eq_of_testBit_eq
    intro i
    rw [Nat.testBit_and, Nat.testBit_two_pow, Nat.zero_testBit]
    by_cases hi : k = i
    · subst hi
      rw [h]
      rfl
    · simp [hi]
  have h2 : x + 2 ^ k = (x ||| 2 ^ k) + (x &&& 2 ^ k) := (or_and_add x (2 ^ k)).symm
  rw [h2, e, Nat.add_zero]
theorem bit_lt {x k n : Nat} (hx : x < 2 ^ n) (hk : k < n) (h : x.testBit k = false) : x + 2 ^ k < 2 ^ n := by
  rw [← or_bit h]
  exact Nat.or_lt_two_pow hx (Nat.pow_lt_pow_right (by decide) hk)
theorem RCn_up {u : Nat → Nat} {f : Nat → Int32} (h : RCn u f) (x v : Nat) : RCn (va_up u x v) (upd f x (nI v)) := by
  intro i hi
  unfold va_up upd
  by_cases hx : i = x
  · rw [if_pos hx, if_pos hx]
  · rw [if_neg hx, if_neg hx]
    exact h i hi
theorem RCm_up {n : Nat} {u : Nat → Nat} {f : Nat → Int32} (h : RCm n u f) (x v : Nat) : RCm n (va_up u x v) (upd f x (nI v)) := by
  intro i hi hi2
  unfold va_up upd
  by_cases hx : i = x
  · rw [if_pos hx, if_pos hx]
  · rw [if_neg hx, if_neg hx]
    exact h i hi hi2
theorem mem_take_s {l : List Nat} {i m c : Nat} (hc : l[i]? = some c) : m ∈ l.take (i + 1) ↔ m ∈ l.take i ∨ c = m := by
  rw [List.take_add_one, hc, List.mem_append]
  simp
  constructor
  · rintro (h | h)
    · exact Or.inl h
    · exact Or.inr h.symm
  · rintro (h | h)
    · exact Or.inl h
    · exact Or.inr h.symm
theorem dk_room {s : Sa} (h : CI s) {x m : Nat} (hm : 1 ≤ m ∧ m ≤ (sMs s).length) (hn : m ∉ sDk s x) : (sDk s x).length < 200 := by
  have h1 : (sDk s x ++ [m]).Nodup := by
    rw [List.nodup_append]
    refine ⟨(h.2.2.2 x).1, by simp, fun a ha b hb q => ?_⟩
    rw [List.mem_singleton.mp hb] at q
    exact hn (q ▸ ha)
  have h2 := dk_nodup (N := (sMs s).length) h1 (fun a ha => by
    rcases List.mem_append.mp ha with ha | ha
    · exact (h.2.2.2 x).2 a ha
    · rw [List.mem_singleton.mp ha]; exact hm)
  have := h.1
  simp at h2
  omega
set_option maxRecDepth 20000 in
theorem c_Mod_deliver0 {G : Gt} {o : Nat} {A : Nat → Nat} {Fi : Nat → Int32} {M : Nat → Nat → Int32} {Ml : Nat → Nat → Int64} {s : Sa} (hI : mInj o A) (hR : RepM s Fi M Ml) (hC : CI s) {x m k : Nat} (hx : x < 6) (hm : 1 ≤ m ∧ m ≤ (sMs s).length) (hk : k < cntOf s m) (hbit : (sCm s m).testBit k = true) : CallE G m_Mod_deliver 0 0 [.ref o, .int (nI x), .int (nI m), .int (nI k)] (hM o A Fi M Ml) 0 0 none (fun h' => ∃ M', h' = hM o A Fi M' Ml ∧ RepM (deliverS s x m k) Fi M' Ml ∧ M' 42 = M 42) := by
  have hcm := hC.cm m
  have hlen := hC.1
  have hdl : (sDk s x).length ≤ 200 := Nat.le_trans (dk_nodup (hC.2.2.2 x).1 (hC.2.2.2 x).2) hC.1
  have hk7 : k < 7 := Nat.lt_of_lt_of_le hk (cnt_7 hC.2.2.1 m)
  have hk128 : 2 ^ k < 2 ^ 7 := Nat.pow_lt_pow_right (by decide) hk7
  have hdv : sCm s m / 2 ^ k ≤ sCm s m := Nat.div_le_self _ _
  obtain ⟨r1, r2, r3, r4, r5, r6, r7, r8, r9, r10, r11⟩ := id hR
  have hd1 : RepM (deliverS s x m k) Fi (u2 M 34 x (nI (sDb s x + 1))) Ml := by
    rw [show deliverS s x m k = wDb s (va_up (sDb s) x (sDb s x + 1)) by unfold deliverS; rw [if_pos hbit]]
    exact ⟨r1, r2, r3, r4, r5, r6, r7, r8, r9, RCn_up r10 x _, r11⟩
  refine CallS.of (Nat.le_of_ble_eq_true rfl) ?_
  refine wp_aload_n d_Mod_deliver_0 rfl 0 rfl ?_
  refine wm_get d_Mod_deliver_1 21 (by decide) wF_Mod_63 rfl ?_
  refine wp_iload_n d_Mod_deliver_4 rfl 2 rfl ?_
  refine wm_ild (j := 21) (x := (nI (sCm s m))) d_Mod_deliver_5 hI (by decide) (by decide) (by show _ < 201; omega) (by decide) (r6 m hm.1 hm.2) ?_
  refine wp_iload_n d_Mod_deliver_6 rfl 3 rfl ?_
  refine wp_ishrN d_Mod_deliver_7 (by omega) (by omega) ?_
  refine wp_iconst (v := nI 1) d_Mod_deliver_8 (by decide) ?_
  refine wp_iandM (c := 1) d_Mod_deliver_9 (by omega) (by decide) ?_
  refine wp_iconst (v := nI 1) d_Mod_deliver_10 (by decide) ?_
  refine wp_neN (tgt := 25) d_Mod_deliver_11 (by decide) (by omega) (by omega) (fun c11 => ?_) (fun c11 => ?_)
  · exact absurd ((tb_1 _ _).mpr hbit) c11
  · refine wp_aload_n d_Mod_deliver_14 rfl 0 rfl ?_
    refine wm_get d_Mod_deliver_15 34 (by decide) wF_Mod_99 rfl ?_
    refine wp_iload_n d_Mod_deliver_18 rfl 1 rfl ?_
    refine wp_dup2 d_Mod_deliver_19 rfl rfl ?_
    refine wm_ild (j := 34) (x := (nI (sDb s x))) d_Mod_deliver_20 hI (by decide) (by decide) (by show _ < 6; omega) (by decide) (r10 x hx) ?_
    refine wp_iconst (v := nI 1) d_Mod_deliver_21 (by decide) ?_
    refine wp_iaddN d_Mod_deliver_22 ?_
    refine wm_ist (j := 34) d_Mod_deliver_23 hI (by decide) (by decide) (by show _ < 6; omega) (by decide) ?_
    exact wp_vret d_Mod_deliver_24 rfl ⟨rfl, _, rfl, hd1, rfl⟩
set_option maxRecDepth 20000 in
theorem c_Mod_deliver1 {G : Gt} {o : Nat} {A : Nat → Nat} {Fi : Nat → Int32} {M : Nat → Nat → Int32} {Ml : Nat → Nat → Int64} {s : Sa} (hI : mInj o A) (hR : RepM s Fi M Ml) (hC : CI s) {x m k : Nat} (hx : x < 6) (hm : 1 ≤ m ∧ m ≤ (sMs s).length) (hk : k < cntOf s m) (hbit : (sCm s m).testBit k = false) : CallE G m_Mod_deliver 0 0 [.ref o, .int (nI x), .int (nI m), .int (nI k)] (hM o A Fi M Ml) 0 0 none (fun h' => ∃ M', h' = hM o A Fi M' Ml ∧ RepM (deliverS s x m k) Fi M' Ml ∧ M' 42 = M 42) := by
  have hcm := hC.cm m
  have hlen := hC.1
  have hdl : (sDk s x).length ≤ 200 := Nat.le_trans (dk_nodup (hC.2.2.2 x).1 (hC.2.2.2 x).2) hC.1
  have hk7 : k < 7 := Nat.lt_of_lt_of_le hk (cnt_7 hC.2.2.1 m)
  have hk128 : 2 ^ k < 2 ^ 7 := Nat.pow_lt_pow_right (by decide) hk7
  have hdv : sCm s m / 2 ^ k ≤ sCm s m := Nat.div_le_self _ _
  obtain ⟨r1, r2, r3, r4, r5, r6, r7, r8, r9, r10, r11⟩ := id hR
  have hbF : ¬ (sCm s m).testBit k = true := by rw [hbit]; decide
  have hM1 : (u2 M 21 m (nI (sCm s m + 2 ^ k))) 35 = M 35 ∧ (u2 M 21 m (nI (sCm s m + 2 ^ k))) 36 = M 36 := ⟨rfl, rfl⟩
  have hd2 : m ∈ sDk s x → RepM (deliverS s x m k) Fi (u2 M 21 m (nI (sCm s m + 2 ^ k))) Ml := fun h => by
    rw [show deliverS s x m k = wCm s (va_up (sCm s) m (sCm s m + 2 ^ k)) by unfold deliverS; rw [if_neg hbF]; simp only [if_pos h]]
    exact ⟨r1, r2, r3, r4, r5, RCm_up r6 m _, r7, r8, r9, r10, r11⟩
  have hd3 : ¬ m ∈ sDk s x → RepM (deliverS s x m k) Fi (u2 (u2 (u2 M 21 m (nI (sCm s m + 2 ^ k))) 36 (200 * x + (sDk s x).length) (nI m)) 35 x (nI ((sDk s x).length + 1))) Ml := fun h => by
    have hroom := dk_room hC hm h
    rw [show deliverS s x m k = wDk (wCm s (va_up (sCm s) m (sCm s m + 2 ^ k))) (va_up (sDk s) x (sDk s x ++ [m])) by unfold deliverS; rw [if_neg hbF]; simp only [if_neg h]]
    refine ⟨r1, r2, r3, r4, r5, RCm_up r6 m _, r7, r8, r9, r10, fun i hi => ?_⟩
    show upd (M 35) x (nI ((sDk s x).length + 1)) i = nI (va_up (sDk s) x (sDk s x ++ [m]) i).length ∧ ∀ j c, (va_up (sDk s) x (sDk s x ++ [m]) i)[j]? = some c → upd (M 36) (200 * x + (sDk s x).length) (nI m) (200 * i + j) = nI c
    by_cases hix : i = x
    · subst hix
      rw [show va_up (sDk s) i (sDk s i ++ [m]) i = sDk s i ++ [m] by simp [va_up]]
      refine ⟨by simp [upd], fun j c hj => ?_⟩
      by_cases hjl : j = (sDk s i).length
      · subst hjl
        simp at hj
        subst hj
        simp [upd]
      · have hlt : j < (sDk s i).length := by
          have := (List.getElem?_eq_some_iff.mp hj).1
          simp at this
          omega
        rw [List.getElem?_append_left hlt] at hj
        unfold upd
        rw [if_neg (by omega)]
        exact (r11 i hi).2 j c hj
    · rw [show va_up (sDk s) x (sDk s x ++ [m]) i = sDk s i by simp [va_up, hix]]
      refine ⟨by simp [upd, hix]; exact (r11 i hi).1, fun j c hj => ?_⟩
      have hlt : j < (sDk s i).length := (List.getElem?_eq_some_iff.mp hj).1
      have := Nat.le_trans (dk_nodup (hC.2.2.2 i).1 (hC.2.2.2 i).2) hC.1
      unfold upd
      rw [if_neg (by omega)]
      exact (r11 i hi).2 j c hj
  have hM1d : u2 M 21 m (nI (sCm s m + 2 ^ k)) = u2 M 21 m (nI (sCm s m + 2 ^ k)) := rfl
  revert hM1 hd2 hd3 hM1d
  generalize hg : u2 M 21 m (nI (sCm s m + 2 ^ k)) = M1
  intro hM1 hd2 hd3 hM1d
  refine CallS.of (Nat.le_of_ble_eq_true rfl) ?_
  have L2 : ∀ (f i : Nat) (z : Int32), (sDk s x).length - i < f → i ≤ (sDk s x).length → z = bI (decide (m ∈ (sDk s x).take i)) → WP G m_Mod_deliver (0, 0, 0, 0, (hM o A Fi M Ml), fun r9 h9 => r9 = .inl none ∧ (fun h' => ∃ M', h' = hM o A Fi M' Ml ∧ RepM (deliverS s x m k) Fi M' Ml ∧ M' 42 = M 42) h9) 43 [(5, .int (nI i)), (4, .int z), (0, .ref o), (1, .int (nI x)), (2, .int (nI m))] [] (hM o A Fi M1 Ml) 0 0 := by
    intro f
    induction f with
    | zero =>
      intro i z h1
      omega
    | succ f ih =>
      intro i z hf hi hz
      subst hz
      refine wp_iload d_Mod_deliver_43 0 rfl ?_
      refine wp_aload_n d_Mod_deliver_45 rfl 2 rfl ?_
      refine wm_get d_Mod_deliver_46 35 (by decide) wF_Mod_102 rfl ?_
      refine wp_iload_n d_Mod_deliver_49 rfl 3 rfl ?_
      refine wm_ild (j := 35) (x := (nI ((sDk s x).length))) d_Mod_deliver_50 hI (by decide) (by decide) (by show _ < 6; omega) (by decide) (hM1.1 ▸ (hR.dk x hx).1) ?_
      refine wp_geN (tgt := 89) d_Mod_deliver_51 (by decide) (by omega) (by omega) (fun c51 => ?_) (fun c51 => ?_)
      · refine wp_iload d_Mod_deliver_89 1 rfl ?_
        refine wp_if_eqB (tgt := 95) d_Mod_deliver_91 (by decide) (fun c91 => ?_) (fun c91 => ?_)
        · have hroom := dk_room hC hm (x := x) (by have := of_decide_eq_false c91; rwa [show i = (sDk s x).length by omega, List.take_length] at this)
          refine wp_aload_n d_Mod_deliver_95 rfl 2 rfl ?_
          refine wm_get d_Mod_deliver_96 36 (by decide) wF_Mod_105 rfl ?_
          refine wp_sipush (v := nI 200) d_Mod_deliver_99 (by decide) ?_
          refine wp_iload_n d_Mod_deliver_102 rfl 3 rfl ?_
          refine wp_imulN d_Mod_deliver_103 ?_
          refine wp_aload_n d_Mod_deliver_104 rfl 2 rfl ?_
          refine wm_get d_Mod_deliver_105 35 (by decide) wF_Mod_102 rfl ?_
          refine wp_iload_n d_Mod_deliver_108 rfl 3 rfl ?_
          refine wm_ild (j := 35) (x := (nI ((sDk s x).length))) d_Mod_deliver_109 hI (by decide) (by decide) (by show _ < 6; omega) (by decide) (hM1.1 ▸ (hR.dk x hx).1) ?_
          refine wp_iaddN d_Mod_deliver_110 ?_
          refine wp_iload_n d_Mod_deliver_111 rfl 4 rfl ?_
          refine wm_ist (j := 36) d_Mod_deliver_112 hI (by decide) (by decide) (by show _ < 1200; omega) (by decide) ?_
          refine wp_aload_n d_Mod_deliver_113 rfl 2 rfl ?_
          refine wm_get d_Mod_deliver_114 35 (by decide) wF_Mod_102 rfl ?_
          refine wp_iload_n d_Mod_deliver_117 rfl 3 rfl ?_
          refine wp_dup2 d_Mod_deliver_118 rfl rfl ?_
          refine wm_ild (j := 35) (x := (nI ((sDk s x).length))) d_Mod_deliver_119 hI (by decide) (by decide) (by show _ < 6; omega) (by decide) (by rw [u2_ne _ _ (by decide)]; exact hM1.1 ▸ (hR.dk x hx).1) ?_
          refine wp_iconst (v := nI 1) d_Mod_deliver_120 (by decide) ?_
          refine wp_iaddN d_Mod_deliver_121 ?_
          refine wm_ist (j := 35) d_Mod_deliver_122 hI (by decide) (by decide) (by show _ < 6; omega) (by decide) ?_
          exact wp_vret d_Mod_deliver_123 rfl ⟨rfl, _, rfl, hd3 (by have := of_decide_eq_false c91; rwa [show i = (sDk s x).length by omega, List.take_length] at this), by rw [← hg]; rfl⟩
        · exact wp_vret d_Mod_deliver_94 rfl ⟨rfl, _, rfl, hd2 (by have := of_decide_eq_true c91; rwa [show i = (sDk s x).length by omega, List.take_length] at this), by rw [← hg]; rfl⟩
      · obtain ⟨c, hc⟩ := get_of c51
        have hcm := (hC.2.2.2 x).2 c (List.mem_of_getElem? hc)
        refine wp_iload d_Mod_deliver_54 1 rfl ?_
        refine wp_if_neB (tgt := 76) d_Mod_deliver_56 (by decide) (fun c56 => ?_) (fun c56 => ?_)
        · refine wp_iconst (v := nI 1) d_Mod_deliver_76 (by decide) ?_
          refine wp_goto (tgt := 81) d_Mod_deliver_77 (by decide) ?_
          refine wp_istore (lv' := [(4, .int (nI 1)), (5, .int (nI i)), (0, .ref o), (1, .int (nI x)), (2, .int (nI m))]) d_Mod_deliver_81 (by decide) rfl ?_
          refine wp_iinc (lv' := [(5, .int (nI (i + 1))), (4, .int (nI 1)), (0, .ref o), (1, .int (nI x)), (2, .int (nI m))]) d_Mod_deliver_83 1 rfl (nI_1 _) (by decide) rfl ?_
          refine wp_goto (tgt := 43) d_Mod_deliver_86 (by decide) ?_
          exact ih (i + 1) _ (by omega) (by omega) (bI_one (decide_eq_true ((mem_take_s hc).mpr (by first | exact Or.inr c73 | exact Or.inl (of_decide_eq_true c56)))))
        · refine wp_aload_n d_Mod_deliver_59 rfl 2 rfl ?_
          refine wm_get d_Mod_deliver_60 36 (by decide) wF_Mod_105 rfl ?_
          refine wp_sipush (v := nI 200) d_Mod_deliver_63 (by decide) ?_
          refine wp_iload_n d_Mod_deliver_66 rfl 3 rfl ?_
          refine wp_imulN d_Mod_deliver_67 ?_
          refine wp_iload d_Mod_deliver_68 0 rfl ?_
          refine wp_iaddN d_Mod_deliver_70 ?_
          refine wm_ild (j := 36) (x := (nI c)) d_Mod_deliver_71 hI (by decide) (by decide) (by show _ < 1200; omega) (by decide) (hM1.2 ▸ (hR.dk x hx).2 i c hc) ?_
          refine wp_iload_n d_Mod_deliver_72 rfl 4 rfl ?_
          refine wp_neN (tgt := 80) d_Mod_deliver_73 (by decide) (by omega) (by omega) (fun c73 => ?_) (fun c73 => ?_)
          · refine wp_iconst (v := nI 0) d_Mod_deliver_80 (by decide) ?_
            refine wp_istore (lv' := [(4, .int (nI 0)), (5, .int (nI i)), (0, .ref o), (1, .int (nI x)), (2, .int (nI m))]) d_Mod_deliver_81 (by decide) rfl ?_
            refine wp_iinc (lv' := [(5, .int (nI (i + 1))), (4, .int (nI 0)), (0, .ref o), (1, .int (nI x)), (2, .int (nI m))]) d_Mod_deliver_83 1 rfl (nI_1 _) (by decide) rfl ?_
            refine wp_goto (tgt := 43) d_Mod_deliver_86 (by decide) ?_
            exact ih (i + 1) _ (by omega) (by omega) (bI_zero (decide_eq_false (fun q => ((mem_take_s hc).mp q).elim (of_decide_eq_false c56) c73)))
          · refine wp_iconst (v := nI 1) d_Mod_deliver_76 (by decide) ?_
            refine wp_goto (tgt := 81) d_Mod_deliver_77 (by decide) ?_
            refine wp_istore (lv' := [(4, .int (nI 1)), (5, .int (nI i)), (0, .ref o), (1, .int (nI x)), (2, .int (nI m))]) d_Mod_deliver_81 (by decide) rfl ?_
            refine wp_iinc (lv' := [(5, .int (nI (i + 1))), (4, .int (nI 1)), (0, .ref o), (1, .int (nI x)), (2, .int (nI m))]) d_Mod_deliver_83 1 rfl (nI_1 _) (by decide) rfl ?_
            refine wp_goto (tgt := 43) d_Mod_deliver_86 (by decide) ?_
            exact ih (i + 1) _ (by omega) (by omega) (bI_one (decide_eq_true ((mem_take_s hc).mpr (by first | exact Or.inr c73 | exact Or.inl (of_decide_eq_true c56)))))
  refine wp_aload_n d_Mod_deliver_0 rfl 0 rfl ?_
  refine wm_get d_Mod_deliver_1 21 (by decide) wF_Mod_63 rfl ?_
  refine wp_iload_n d_Mod_deliver_4 rfl 2 rfl ?_
  refine wm_ild (j := 21) (x := (nI (sCm s m))) d_Mod_deliver_5 hI (by decide) (by decide) (by show _ < 201; omega) (by decide) (r6 m hm.1 hm.2) ?_
  refine wp_iload_n d_Mod_deliver_6 rfl 3 rfl ?_
  refine wp_ishrN d_Mod_deliver_7 (by omega) (by omega) ?_
  refine wp_iconst (v := nI 1) d_Mod_deliver_8 (by decide) ?_
  refine wp_iandM (c := 1) d_Mod_deliver_9 (by omega) (by decide) ?_
  refine wp_iconst (v := nI 1) d_Mod_deliver_10 (by decide) ?_
  refine wp_neN (tgt := 25) d_Mod_deliver_11 (by decide) (by omega) (by omega) (fun c11 => ?_) (fun c11 => ?_)
  · refine wp_aload_n d_Mod_deliver_25 rfl 0 rfl ?_
    refine wm_get d_Mod_deliver_26 21 (by decide) wF_Mod_63 rfl ?_
    refine wp_iload_n d_Mod_deliver_29 rfl 2 rfl ?_
    refine wp_dup2 d_Mod_deliver_30 rfl rfl ?_
    refine wm_ild (j := 21) (x := (nI (sCm s m))) d_Mod_deliver_31 hI (by decide) (by decide) (by show _ < 201; omega) (by decide) (r6 m hm.1 hm.2) ?_
    refine wp_iconst (v := nI 1) d_Mod_deliver_32 (by decide) ?_
    refine wp_iload_n d_Mod_deliver_33 rfl 3 rfl ?_
    refine wp_ishlN d_Mod_deliver_34 (by omega) (by omega) ?_
    refine wp_iorN d_Mod_deliver_35 ?_
    refine wp_toI (z := (nI (sCm s m + 2 ^ k))) (by rw [Nat.one_mul, or_bit hbit]) ?_
    refine wm_ist (j := 21) d_Mod_deliver_36 hI (by decide) (by decide) (by show _ < 201; omega) (by decide) ?_
    rw [hg]
    refine wp_iconst (v := nI 0) d_Mod_deliver_37 (by decide) ?_
    refine wp_istore (lv' := [(4, .int (nI 0)), (0, .ref o), (1, .int (nI x)), (2, .int (nI m)), (3, .int (nI k))]) d_Mod_deliver_38 (by decide) rfl ?_
    refine wp_iconst (v := nI 0) d_Mod_deliver_40 (by decide) ?_
    refine wp_istore (lv' := [(5, .int (nI 0)), (4, .int (nI 0)), (0, .ref o), (1, .int (nI x)), (2, .int (nI m)), (3, .int (nI k))]) d_Mod_deliver_41 (by decide) rfl ?_
    refine wp_lv [0, 1, 2, 3, 4] rfl ?_
    exact L2 ((sDk s x).length + 1) 0 _ (by omega) (by omega) (bI_zero (by simp))
  · exact absurd ((tb_1 _ _).mp c11) (by rw [hbit]; decide)
theorem c_Mod_deliver {G : Gt} {o : Nat} {A : Nat → Nat} {Fi : Nat → Int32} {M : Nat → Nat → Int32} {Ml : Nat → Nat → Int64} {s : Sa} (hI : mInj o A) (hR : RepM s Fi M Ml) (hC : CI s) {x m k : Nat} (hx : x < 6) (hm : 1 ≤ m ∧ m ≤ (sMs s).length) (hk : k < cntOf s m) : CallE G m_Mod_deliver 0 0 [.ref o, .int (nI x), .int (nI m), .int (nI k)] (hM o A Fi M Ml) 0 0 none (fun h' => ∃ M', h' = hM o A Fi M' Ml ∧ RepM (deliverS s x m k) Fi M' Ml ∧ M' 42 = M 42) := by
  cases hb : (sCm s m).testBit k with
  | false => exact c_Mod_deliver1 hI hR hC hx hm hk hb
  | true => exact c_Mod_deliver0 hI hR hC hx hm hk hb
end Mod22
