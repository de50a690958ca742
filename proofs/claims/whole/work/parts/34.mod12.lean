section Mod12
theorem c_Mod_isSwitchF {G : Gt} {h : AHp} {x : Int32} (hx : swB x = false) : CallR G m_Mod_isSwitch 1 14 [.int x] h 0 0 (some (.int (bI false))) h := CallR.eq (c_Mod_isSwitch x) (by rw [← hx]; rfl) rfl
theorem c_Mod_isSwitchT {G : Gt} {h : AHp} {x : Nat} (hx : x < 6) : CallR G m_Mod_isSwitch 1 14 [.int (nI x)] h 0 0 (some (.int (bI true))) h := CallR.eq (c_Mod_isSwitch (nI x)) (by rw [inZ_nI (by omega) (by decide) (by decide)]; simp; exact congrArg bI (decide_eq_true (by omega))) rfl
theorem c_Mod_inZT {G : Gt} {h : AHp} {x lo hi : Int32} (hx : inZ x lo hi = true) : CallR G m_Mod_in 0 0 [.int x, .int lo, .int hi] h 0 0 (some (.int (bI true))) h :=
  CallR.eq (c_Mod_in x lo hi) (by rw [hx]) rfl
theorem CallR.up {G : Gt} {y : Mi} {d w d' w' : Nat} {av : List Value} {h h1 : AHp} {v : Option Value} (hc : CallR G y d w av h 0 0 v h1) (hd : d ≤ d') (hw : w ≤ w') : CallR G y d' w' av h 0 0 v h1 :=
  CallS.mono hc hd hw (Nat.le_refl _) (Nat.le_refl _) (fun _ _ q => q)
theorem nN_nI {a : Nat} (ha : a < 2 ^ 31) : nN (nI a) = a := nI_clamp ha
theorem swB_of {x : Int32} (h : swB x = true) : ∃ j, j < 6 ∧ x = nI j := by
  obtain ⟨j, hj, e⟩ := inZ_of (n := 5) (by decide) h
  exact ⟨j, by omega, e⟩
theorem swB_nI {j : Nat} (hj : j < 6) : swB (nI j) = true := by
  unfold swB
  rw [inZ_nI (by omega) (by decide) (by decide)]
  exact decide_eq_true (by omega)
theorem get_of {α : Type} {l : List α} {i : Nat} (h : i < l.length) : ∃ c, l[i]? = some c := ⟨l[i], List.getElem?_eq_getElem h⟩
theorem cntT {α : Type} {l : List α} {p : α → Bool} {i : Nat} {c : α} (hc : l[i]? = some c) : (l.take (i + 1)).countP p = (l.take i).countP p + if p c then 1 else 0 := by
  rw [List.take_add_one, hc, List.countP_append]
  simp [List.countP_cons]
def bCp (cs : List (Nat × Nat × Nat × Nat)) : Prop := cs.length ≤ 2000 ∧ ∀ c ∈ cs, c.1 < 22 ∧ (1 ≤ c.2.1 ∧ c.2.1 ≤ 200) ∧ c.2.2.1 < 128 ∧ c.2.2.2 ≤ 8
theorem encC_ok {c : Nat × Nat × Nat × Nat} (h : c.1 < 22 ∧ (1 ≤ c.2.1 ∧ c.2.1 ≤ 200) ∧ c.2.2.1 < 128 ∧ c.2.2.2 ≤ 8) : encC c / 2 ^ 20 = c.1 ∧ encC c / 2 ^ 12 % 2 ^ 8 = c.2.1 ∧ encC c / 2 ^ 4 % 2 ^ 7 = c.2.2.1 ∧ encC c % 2 ^ 4 = c.2.2.2 ∧ encC c < 2 ^ 25 := by
  unfold encC
  omega
set_option maxRecDepth 20000 in
theorem c_Mod_delivered0 {G : Gt} {o : Nat} {A : Nat → Nat} {Fi : Nat → Int32} {M : Nat → Nat → Int32} {Ml : Nat → Nat → Int64} {x : Int32} (hx : swB x = false) : CallR G m_Mod_delivered 2 27 [.ref o, .int x] (hM o A Fi M Ml) 0 0 (some (.int (nI 0))) (hM o A (va_up Fi 0 (nI 1)) M Ml) := by
  refine CallS.of (Nat.le_of_ble_eq_true rfl) ?_
  refine wp_aload_n d_Mod_delivered_0 rfl 0 rfl ?_
  refine wp_iload_n d_Mod_delivered_1 rfl 1 rfl ?_
  refine wp_callV (r := 1) d_Mod_delivered_2 (link_S (av := [.int x]) (rest := [.ref o]) d_Mod_delivered_2 cal_Mod_isSwitch wM_Mod_123 rfl) cal_Mod_isSwitch (c_Mod_isSwitchF hx) (Nat.le_of_ble_eq_true rfl) ⟨Nat.le_of_ble_eq_true rfl, Nat.le_of_ble_eq_true rfl⟩ ?_
  refine wp_if_eqB (tgt := 12) d_Mod_delivered_5 (by decide) (fun _ => ?_) (fun c => absurd c (by decide))
  refine wp_iconst (v := nI 1) d_Mod_delivered_12 (by decide) ?_
  refine wm_put (Fi' := va_up Fi 0 (nI 1)) d_Mod_delivered_13 0 (by decide) wF_Mod_111 rfl (by decide) rfl ?_
  refine wp_aload_n d_Mod_delivered_16 rfl 0 rfl ?_
  refine wm_get d_Mod_delivered_17 0 (by decide) wF_Mod_111 rfl ?_
  refine wp_toI (z := (nI 1)) (rfl) ?_
  refine wp_if_leN (tgt := 27) d_Mod_delivered_20 (by decide) (by omega) (fun c => absurd c (by decide)) (fun _ => ?_)
  refine wp_iconst (v := nI 0) d_Mod_delivered_23 (by decide) ?_
  refine wp_goto (tgt := 33) d_Mod_delivered_24 (by decide) ?_
  exact wp_iret d_Mod_delivered_33 rfl ⟨rfl, rfl⟩
set_option maxRecDepth 20000 in
theorem c_Mod_delivered1 {G : Gt} {o : Nat} {A : Nat → Nat} {Fi : Nat → Int32} {M : Nat → Nat → Int32} {Ml : Nat → Nat → Int64} (hI : mInj o A) {x n : Nat} (hx : x < 6) (hn : M 35 x = nI n) : CallR G m_Mod_delivered 2 27 [.ref o, .int (nI x)] (hM o A Fi M Ml) 0 0 (some (.int (nI n))) (hM o A (va_up Fi 0 (nI 0)) M Ml) := by
  refine CallS.of (Nat.le_of_ble_eq_true rfl) ?_
  refine wp_aload_n d_Mod_delivered_0 rfl 0 rfl ?_
  refine wp_iload_n d_Mod_delivered_1 rfl 1 rfl ?_
  refine wp_callV (r := 1) d_Mod_delivered_2 (link_S (av := [.int (nI x)]) (rest := [.ref o]) d_Mod_delivered_2 cal_Mod_isSwitch wM_Mod_123 rfl) cal_Mod_isSwitch (c_Mod_isSwitchT (by omega)) (Nat.le_of_ble_eq_true rfl) ⟨Nat.le_of_ble_eq_true rfl, Nat.le_of_ble_eq_true rfl⟩ ?_
  refine wp_if_eqB (tgt := 12) d_Mod_delivered_5 (by decide) (fun c => absurd c (by decide)) (fun _ => ?_)
  refine wp_iconst (v := nI 0) d_Mod_delivered_8 (by decide) ?_
  refine wp_goto (tgt := 13) d_Mod_delivered_9 (by decide) ?_
  refine wm_put (Fi' := va_up Fi 0 (nI 0)) d_Mod_delivered_13 0 (by decide) wF_Mod_111 rfl (by decide) rfl ?_
  refine wp_aload_n d_Mod_delivered_16 rfl 0 rfl ?_
  refine wm_get d_Mod_delivered_17 0 (by decide) wF_Mod_111 rfl ?_
  refine wp_toI (z := (nI 0)) (rfl) ?_
  refine wp_if_leN (tgt := 27) d_Mod_delivered_20 (by decide) (by omega) (fun _ => ?_) (fun c => absurd c (by decide))
  refine wp_aload_n d_Mod_delivered_27 rfl 0 rfl ?_
  refine wm_get d_Mod_delivered_28 35 (by decide) wF_Mod_102 rfl ?_
  refine wp_iload_n d_Mod_delivered_31 rfl 1 rfl ?_
  refine wm_ild (j := 35) (x := (nI n)) d_Mod_delivered_32 hI (by decide) (by decide) (by show _ < 6; omega) (by decide) (hn) ?_
  exact wp_iret d_Mod_delivered_33 rfl ⟨rfl, rfl⟩
theorem c_Mod_delivered {G : Gt} {o : Nat} {A : Nat → Nat} {Fi : Nat → Int32} {M : Nat → Nat → Int32} {Ml : Nat → Nat → Int64} {s : Sa} (hI : mInj o A) (hR : RepM s Fi M Ml) (x : Int32) : CallE G m_Mod_delivered 2 27 [.ref o, .int x] (hM o A Fi M Ml) 0 0 (some (.int (stDelivered s x).2.1)) (RefOK o A (stDelivered s x)) := by
  cases hx : swB x with
  | false =>
    have e : stDelivered s x = (1, 0, s) := by simp [stDelivered, hx]
    rw [e]
    exact CallR.E (c_Mod_delivered0 hx) ⟨_, _, _, rfl, hR, rfl⟩
  | true =>
    obtain ⟨j, hj, rfl⟩ := swB_of hx
    have e : stDelivered s (nI j) = (0, nI (sDk s j).length, s) := by simp [stDelivered, hx, nN_nI (show j < 2 ^ 31 by omega)]
    rw [e]
    exact CallR.E (c_Mod_delivered1 hI hj (hR.2.2.2.2.2.2.2.2.2.2 j hj).1) ⟨_, _, _, rfl, hR, rfl⟩
end Mod12
