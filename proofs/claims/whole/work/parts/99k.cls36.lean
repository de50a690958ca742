section Cls36
theorem wCa_I : GoodIn lw_tbl [Cond.arrayClass .int] := goodIn_r _ [134] (by decide +kernel) (by decide +kernel)
theorem wn_newi {G : Gt} {y : Mi} {B : Bt} {pc : Nat} {lv : List (Nat × Value)} {st : List Value} {k n : Nat} {K N : Nat → Nat} {I : Nat → Nat → Int32} {R : Nat → Nat → Option Nat} {L : Nat → Nat → Int64} {E : Nat → Nat → Int32} {El : Nat → Nat → Int64} {Er : Nat → Nat → Option Nat} {len : Nat} (hd : decode (mB y) pc = .ok (.newarray .int, 2)) (hl : len ≤ 4000) (hD : DF K I R L E El Er) (kk : ∀ q : Nat, K q = 0 → WP G y B (pc + 2) lv (.ref q :: st) (hN (va_up K q (20 + 0)) (va_up N q len) I R L E El Er) k n) : WP G y B pc lv (.int (nI len) :: st) (hN K N I R L E El Er) (k + 1) (n + len) := by
  refine wp_newa (t := 0) (N := len) (a0 := (len, .inl fun _ => 0)) hd rfl rfl (fun C h9 => by cases h9) wCa_I (fun cA => rfl) (nI_pos (by omega)) (nI_clamp (by omega)) (by show len * 4 ≤ _; omega) (fun q hq => ?_)
  have hq0 := hN_0.mp hq
  rw [hN_newA (t := 0) (len := len) (x := (len, .inl fun _ => 0)) hD hq0 rfl]
  exact kk q hq0
theorem wn_newb {G : Gt} {y : Mi} {B : Bt} {pc : Nat} {lv : List (Nat × Value)} {st : List Value} {k n : Nat} {K N : Nat → Nat} {I : Nat → Nat → Int32} {R : Nat → Nat → Option Nat} {L : Nat → Nat → Int64} {E : Nat → Nat → Int32} {El : Nat → Nat → Int64} {Er : Nat → Nat → Option Nat} {len : Nat} (hd : decode (mB y) pc = .ok (.newarray .byte, 2)) (hl : len ≤ 4000) (hD : DF K I R L E El Er) (kk : ∀ q : Nat, K q = 0 → WP G y B (pc + 2) lv (.ref q :: st) (hN (va_up K q (20 + 2)) (va_up N q len) I R L E El Er) k n) : WP G y B pc lv (.int (nI len) :: st) (hN K N I R L E El Er) (k + 1) (n + len) := by
  refine wp_newa (t := 2) (N := len) (a0 := (len, .inl fun _ => 0)) hd rfl rfl (fun C h9 => by cases h9) wCa_B (fun cA => rfl) (nI_pos (by omega)) (nI_clamp (by omega)) (by show len * 1 ≤ _; omega) (fun q hq => ?_)
  have hq0 := hN_0.mp hq
  rw [hN_newA (t := 2) (len := len) (x := (len, .inl fun _ => 0)) hD hq0 rfl]
  exact kk q hq0
theorem wn_newl {G : Gt} {y : Mi} {B : Bt} {pc : Nat} {lv : List (Nat × Value)} {st : List Value} {k n : Nat} {K N : Nat → Nat} {I : Nat → Nat → Int32} {R : Nat → Nat → Option Nat} {L : Nat → Nat → Int64} {E : Nat → Nat → Int32} {El : Nat → Nat → Int64} {Er : Nat → Nat → Option Nat} {len : Nat} (hd : decode (mB y) pc = .ok (.newarray .long, 2)) (hl : len ≤ 4000) (hD : DF K I R L E El Er) (kk : ∀ q : Nat, K q = 0 → WP G y B (pc + 2) lv (.ref q :: st) (hN (va_up K q (20 + 1)) (va_up N q len) I R L E El Er) k n) : WP G y B pc lv (.int (nI len) :: st) (hN K N I R L E El Er) (k + 1) (n + len) := by
  refine wp_newa (t := 1) (N := len) (a0 := (len, .inr (.inl fun _ => 0))) hd rfl rfl (fun C h9 => by cases h9) wCa_J (fun cA => rfl) (nI_pos (by omega)) (nI_clamp (by omega)) (by show len * 8 ≤ _; omega) (fun q hq => ?_)
  have hq0 := hN_0.mp hq
  rw [hN_newA (t := 1) (len := len) (x := (len, .inr (.inl fun _ => 0))) hD hq0 rfl]
  exact kk q hq0
set_option maxRecDepth 20000 in
theorem c_Drf_init {G : Gt} {K N : Nat → Nat} {I : Nat → Nat → Int32} {R : Nat → Nat → Option Nat} {L : Nat → Nat → Int64} {E : Nat → Nat → Int32} {El : Nat → Nat → Int64} {Er : Nat → Nat → Option Nat} {d : Nat} (hD : DF K I R L E El Er) (hd : K d = 4 + 1) : CallE G m_Drf_init 1 12 [.ref d] (hN K N I R L E El Er) (0 + 1 + 1) (0 + 7 + 1600) none (fun h' => ∃ qb qa, K qb = 0 ∧ K qa = 0 ∧ qa ≠ qb ∧ h' = hN (va_up (va_up K qb (20 + 2)) qa (20 + 1)) (va_up (va_up N qb 1600) qa 7) I (u2r (u2r R 21 d (some qb)) 22 d (some qa)) L E El Er) := by
  refine CallS.of (Nat.le_of_ble_eq_true rfl) ?_
  refine wp_aload_n d_Drf_init_0 rfl 0 rfl ?_
  refine wp_objInit d_Drf_init_1 wM_Drf_3 ⟨Nat.le_of_ble_eq_true rfl, Nat.le_of_ble_eq_true rfl⟩ ?_
  refine wp_aload_n d_Drf_init_4 rfl 0 rfl ?_
  refine wp_sipush (v := nI 1600) d_Drf_init_5 (by decide) ?_
  refine wn_newb (len := 1600) d_Drf_init_8 (by omega) (hD) (fun q1 hq1 => ?_)
  refine wn_putF_Drf (ty := t_Drf 0) (v := va_rf (some q1)) (I' := I) (R' := u2r R 21 d (some q1)) (L' := L) d_Drf_init_10 (kup hq1 (hd)) 0 (by decide) wF_Drf_9 rfl rfl rfl (t_Drf_ok 0 (by decide)) rfl rfl sF_21 (oR _ _ _ 21 _) ?_
  refine wp_aload_n d_Drf_init_13 rfl 0 rfl ?_
  refine wp_bipush (v := nI 7) d_Drf_init_14 (by decide) ?_
  refine wn_newl (len := 7) d_Drf_init_16 (by omega) (DF.pR (DF.pK (hD) (by decide)) (knz (kup hq1 (hd)))) (fun q2 hq2 => ?_)
  refine wn_putF_Drf (ty := t_Drf 1) (v := va_rf (some q2)) (I' := I) (R' := u2r (u2r R 21 d (some q1)) 22 d (some q2)) (L' := L) d_Drf_init_18 (kup hq2 (kup hq1 (hd))) 1 (by decide) wF_Drf_15 rfl rfl rfl (t_Drf_ok 1 (by decide)) rfl rfl sF_22 (oR _ _ _ 22 _) ?_
  exact wp_vret d_Drf_init_21 rfl ⟨rfl, q1, q2, hq1, (kz_of (by decide) hq2).2, (kz_of (by decide) hq2).1, rfl⟩
/-- a switch as it is made; x: its number -/
def SwF (x w e d hl : Nat) (ρ K N : Nat → Nat) (I : Nat → Nat → Int32) (R Er : Nat → Nat → Option Nat) : Prop := K w = 10 + 1 ∧ ρ w = 10000 + x ∧ R 48 w = some e ∧ R 49 w = some d ∧ R 50 w = some hl ∧ K e = 20 + 6 ∧ N e = 16 ∧ ρ e = 20000 + x ∧ K d = 20 + 7 ∧ N d = 200 ∧ ρ d = 30000 + x ∧ (∀ g, 51 ≤ g → g ≤ 55 → I g w = nI 0) ∧ K hl = 3 + 1 ∧ ρ hl = 40000 + x ∧ R 18 hl = none ∧ R 19 hl = none ∧ I 20 hl = nI 0 ∧ ∀ k, Er e k = none
theorem swt_fin {ρ K N : Nat → Nat} {I : Nat → Nat → Int32} {R : Nat → Nat → Option Nat} {L : Nat → Nat → Int64} {E : Nat → Nat → Int32} {El : Nat → Nat → Int64} {Er : Nat → Nat → Option Nat} {x w q1 q2 q3 : Nat} (hD : DF K I R L E El Er) (hw : K w = 10 + 1) (hr : ρ w = 10000 + x) (hz : ∀ g, I g w = 0) (h1 : K q1 = 0) (h2 : va_up K q1 (20 + 6) q2 = 0) (h3 : va_up (va_up K q1 (20 + 6)) q2 (20 + 7) q3 = 0) : (fun h' => ∃ (ρ' K' N' : Nat → Nat) (I' : Nat → Nat → Int32) (R' : Nat → Nat → Option Nat) (L' : Nat → Nat → Int64) (E' : Nat → Nat → Int32) (El' : Nat → Nat → Int64) (Er' : Nat → Nat → Option Nat) (e d hl : Nat), h' = hN K' N' I' R' L' E' El' Er' ∧ Gw w ρ K N I R L E El Er ρ' K' N' I' R' L' E' El' Er' ∧ SwF x w e d hl ρ' K' N' I' R' Er') (hN (va_up (va_up (va_up K q1 (20 + 6)) q2 (20 + 7)) q3 (3 + 1)) (va_up (va_up N q1 16) q2 200) I (u2r (u2r (u2r R 48 w (some q1)) 49 w (some q2)) 50 w (some q3)) L E El Er) := by
  obtain ⟨n21, k2⟩ := kz_of (by decide) h2
  obtain ⟨n32, k3'⟩ := kz_of (by decide) h3
  obtain ⟨n31, k3⟩ := kz_of (by decide) k3'
  have kw : K w ≠ 0 := by omega
  have nq : ∀ q, K q ≠ 0 → q ≠ q1 ∧ q ≠ q2 ∧ q ≠ q3 := fun q hq => ⟨dne2 h1 hq, dne2 k2 hq, dne2 k3 hq⟩
  obtain ⟨w1, w2, w3⟩ := nq w kw
  have r3 : ∀ g, (u2r (u2r (u2r R 48 w (some q1)) 49 w (some q2)) 50 w (some q3)) g q3 = none := fun g => by rw [u2r_q _ _ w3.symm, u2r_q _ _ w3.symm, u2r_q _ _ w3.symm]; exact (hD q3 k3).2.1 g
  refine ⟨(va_up (va_up (va_up ρ q1 (20000 + x)) q2 (30000 + x)) q3 (40000 + x)), (va_up (va_up (va_up K q1 (20 + 6)) q2 (20 + 7)) q3 (3 + 1)), (va_up (va_up N q1 16) q2 200), I, (u2r (u2r (u2r R 48 w (some q1)) 49 w (some q2)) 50 w (some q3)), L, E, El, Er, q1, q2, q3, rfl, ⟨fun q hq => ?_, fun q hq hn g => ⟨rfl, by rw [u2r_q _ _ hn, u2r_q _ _ hn, u2r_q _ _ hn], rfl⟩, ?_⟩, by simp [va_up, w1, w2, w3, hw], by simp [va_up, w1, w2, w3, hr], by rw [u2r_ne _ _ (by decide), u2r_ne _ _ (by decide), u2r_at, if_pos rfl], by rw [u2r_ne _ _ (by decide), u2r_at, if_pos rfl], by rw [u2r_at, if_pos rfl], by simp [va_up, n21.symm, n31.symm], by simp [va_up, n21.symm], by simp [va_up, n21.symm, n31.symm], by simp [va_up, n32.symm], by simp [va_up], by simp [va_up, n32.symm], fun g _ _ => hz g, by simp [va_up], by simp [va_up], r3 18, r3 19, (hD q3 k3).1 20, (hD q1 h1).2.2.2.2.2⟩
  · obtain ⟨e1, e2, e3⟩ := nq q hq
    exact ⟨by simp [va_up, e1, e2, e3], by simp [va_up, e1, e2], by simp [va_up, e1, e2, e3], rfl, rfl, rfl⟩
  · exact DF.pR (DF.pR (DF.pR (DF.pK (DF.pK (DF.pK hD (by decide)) (by decide)) (by decide)) (by simp [va_up, w1, w2, w3, hw])) (by simp [va_up, w1, w2, w3, hw])) (by simp [va_up, w1, w2, w3, hw])
set_option maxRecDepth 20000 in
theorem c_Swt_init {G : Gt} {K N : Nat → Nat} {I : Nat → Nat → Int32} {R : Nat → Nat → Option Nat} {L : Nat → Nat → Int64} {E : Nat → Nat → Int32} {El : Nat → Nat → Int64} {Er : Nat → Nat → Option Nat} {ρ : Nat → Nat} {x w : Nat} (hD : DF K I R L E El Er) (hw : K w = 10 + 1) (hr : ρ w = 10000 + x) (hz : ∀ g, I g w = 0) : CallE G m_Swt_init 2 26 [.ref w] (hN K N I R L E El Er) (0 + 1 + 1 + 1) (0 + 3 + 200 + 16) none (fun h' => ∃ (ρ' K' N' : Nat → Nat) (I' : Nat → Nat → Int32) (R' : Nat → Nat → Option Nat) (L' : Nat → Nat → Int64) (E' : Nat → Nat → Int32) (El' : Nat → Nat → Int64) (Er' : Nat → Nat → Option Nat) (e d hl : Nat), h' = hN K' N' I' R' L' E' El' Er' ∧ Gw w ρ K N I R L E El Er ρ' K' N' I' R' L' E' El' Er' ∧ SwF x w e d hl ρ' K' N' I' R' Er') := by
  refine CallS.of (Nat.le_of_ble_eq_true rfl) ?_
  refine wp_aload_n d_Swt_init_0 rfl 0 rfl ?_
  refine wp_objInit d_Swt_init_1 wM_Swt_3 ⟨Nat.le_of_ble_eq_true rfl, Nat.le_of_ble_eq_true rfl⟩ ?_
  refine wp_aload_n d_Swt_init_4 rfl 0 rfl ?_
  refine wp_bipush (v := nI 16) d_Swt_init_5 (by decide) ?_
  refine wn_newq (t := 6) (len := 16) d_Swt_init_7 rfl (by decide) wA_Swt_9 wO_6 (by omega) (hD) (fun q1 hq1 => ?_)
  refine wn_putF_Swt (ty := t_Swt 0) (v := va_rf (some q1)) (I' := I) (R' := u2r R 48 w (some q1)) (L' := L) d_Swt_init_10 (kup hq1 (hw)) 0 (by decide) wF_Swt_11 rfl rfl rfl (t_Swt_ok 0 (by decide)) rfl rfl sF_48 (oR _ _ _ 48 _) ?_
  refine wp_aload_n d_Swt_init_13 rfl 0 rfl ?_
  refine wp_sipush (v := nI 200) d_Swt_init_14 (by decide) ?_
  refine wn_newq (t := 7) (len := 200) d_Swt_init_17 rfl (by decide) wA_Swt_17 wO_7 (by omega) (DF.pR (DF.pK (hD) (by decide)) (knz (kup hq1 (hw)))) (fun q2 hq2 => ?_)
  refine wn_putF_Swt (ty := t_Swt 1) (v := va_rf (some q2)) (I' := I) (R' := u2r (u2r R 48 w (some q1)) 49 w (some q2)) (L' := L) d_Swt_init_20 (kup hq2 (kup hq1 (hw))) 1 (by decide) wF_Swt_19 rfl rfl rfl (t_Swt_ok 1 (by decide)) rfl rfl sF_49 (oR _ _ _ 49 _) ?_
  refine wp_aload_n d_Swt_init_23 rfl 0 rfl ?_
  refine wn_new_Lst d_Swt_init_24 wC_Swt_23 (DF.pR (DF.pK (DF.pR (DF.pK (hD) (by decide)) (knz (kup hq1 (hw)))) (by decide)) (knz (kup hq2 (kup hq1 (hw))))) (fun q3 hq3 => ?_)
  refine wp_dup d_Swt_init_27 rfl ?_
  refine wp_callU (r := 2) d_Swt_init_28 (link_IN (as := []) (rest := [.ref q3, .ref w]) d_Swt_init_28 cal_Lst_init rfl wN_Swt_25 wM_Swt_25 rfl) cal_Lst_init (c_Lst_init) (Nat.le_of_ble_eq_true rfl) ⟨Nat.le_of_ble_eq_true rfl, Nat.le_of_ble_eq_true rfl⟩ ?_
  refine wn_putF_Swt (ty := t_Swt 2) (v := va_rf (some q3)) (I' := I) (R' := u2r (u2r (u2r R 48 w (some q1)) 49 w (some q2)) 50 w (some q3)) (L' := L) d_Swt_init_31 (kup hq3 (kup hq2 (kup hq1 (hw)))) 2 (by decide) wF_Swt_26 rfl rfl rfl (t_Swt_ok 2 (by decide)) rfl rfl sF_50 (oR _ _ _ 50 _) ?_
  exact wp_vret d_Swt_init_34 rfl ⟨rfl, swt_fin hD hw hr hz hq1 hq2 hq3⟩
end Cls36
