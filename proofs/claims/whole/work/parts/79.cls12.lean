section Cls12
def resC (a : Ans) (vd : Bool) : ARes := match a.1 with
  | 0 => .inl (if vd then none else some (.int a.2.1))
  | c + 1 => .inr c
def NetOK (o : Nat) (s : Sa) (h' : AHp) : Prop := ∃ (Γ : Gm) (ρ K N : Nat → Nat) (I : Nat → Nat → Int32) (R : Nat → Nat → Option Nat) (L : Nat → Nat → Int64) (E : Nat → Nat → Int32) (El : Nat → Nat → Int64) (Er : Nat → Nat → Option Nat), h' = hN K N I R L E El Er ∧ RepN Γ ρ K N I R L E El Er s ∧ Γ 0 0 = o
/-- a call of the class: it answers, or throws, as the state says -/
def CallN (G : Gt) (y : Mi) (d w : Nat) (av : List Value) (h : AHp) (k n : Nat) (a : Ans) (vd : Bool) (o : Nat) : Prop := CallS G y d w av h k n (fun r h' => r = resC a vd ∧ NetOK o a.2.2 h')
theorem RepN.ok {Γ : Gm} {ρ : Nat → Nat} {K N : Nat → Nat} {I : Nat → Nat → Int32} {R : Nat → Nat → Option Nat} {L : Nat → Nat → Int64} {E : Nat → Nat → Int32} {El : Nat → Nat → Int64} {Er : Nat → Nat → Option Nat} {s : Sa} (hR : RepN Γ ρ K N I R L E El Er s) : NetOK (Γ 0 0) s (hN K N I R L E El Er) := ⟨Γ, ρ, K, N, I, R, L, E, El, Er, rfl, hR, rfl⟩
theorem CallN.ofR {G : Gt} {y : Mi} {d w d' w' k n k' n' o : Nat} {av : List Value} {h h1 : AHp} {v : Option Value} {a : Ans} {vd : Bool} (hc : CallR G y d w av h k n v h1) (hd : d ≤ d') (hw : w ≤ w') (hk : k ≤ k') (hn : n ≤ n') (hv : (.inl v : ARes) = resC a vd) (hN : NetOK o a.2.2 h1) : CallN G y d' w' av h k' n' a vd o :=
  CallS.mono hc hd hw hk hn (fun r h' hq => by obtain ⟨rfl, rfl⟩ := hq; exact ⟨hv, hN⟩)
theorem CallN.ofE {G : Gt} {y : Mi} {d w d' w' k n k' n' o : Nat} {av : List Value} {h : AHp} {v : Option Value} {P : AHp → Prop} {a : Ans} {vd : Bool} (hc : CallE G y d w av h k n v P) (hd : d ≤ d') (hw : w ≤ w') (hk : k ≤ k') (hn : n ≤ n') (hv : (.inl v : ARes) = resC a vd) (hN : ∀ h1, P h1 → NetOK o a.2.2 h1) : CallN G y d' w' av h k' n' a vd o :=
  CallS.mono hc hd hw hk hn (fun r h' hq => by obtain ⟨rfl, hp⟩ := hq; exact ⟨hv, hN _ hp⟩)
theorem CallN.ofT {G : Gt} {y : Mi} {d w d' w' k n k' n' x o : Nat} {av : List Value} {h : AHp} {P : AHp → Prop} {a : Ans} {vd : Bool} (hc : CallT G y d w av h k n x P) (hd : d ≤ d') (hw : w ≤ w') (hk : k ≤ k') (hn : n ≤ n') (hv : (.inr x : ARes) = resC a vd) (hN : ∀ h1, P h1 → NetOK o a.2.2 h1) : CallN G y d' w' av h k' n' a vd o :=
  CallS.mono hc hd hw hk hn (fun r h' hq => by obtain ⟨rfl, hp⟩ := hq; exact ⟨hv, hN _ hp⟩)
theorem RepN.okT {Γ : Gm} {ρ : Nat → Nat} {K N : Nat → Nat} {I : Nat → Nat → Int32} {R : Nat → Nat → Option Nat} {L : Nat → Nat → Int64} {E : Nat → Nat → Int32} {El : Nat → Nat → Int64} {Er : Nat → Nat → Option Nat} {s : Sa} (hR : RepN Γ ρ K N I R L E El Er s) : ∀ h1, h1 = hN K N I R L E El Er → NetOK (Γ 0 0) s h1 := fun h1 e => by rw [e]; exact hR.ok
theorem inZ_58 {w : Int32} (h1 : (0 : Int32) ≤ w) (h2 : w < nI 5) : inZ w (nI 0) (nI 8) = true := by
  unfold inZ
  refine decide_eq_true ⟨h1, ?_⟩
  rw [Int32.lt_iff_toInt_lt] at h2
  rw [Int32.le_iff_toInt_le]
  exact Int.le_trans (Int.le_of_lt h2) (by decide)
theorem tab_out {x : Int32} {lo hi : Nat} (hb : hi < 2 ^ 31) (h : ∀ j, lo ≤ j → j ≤ hi → ¬ x = nI j) : x.toInt < (lo : Int) ∨ (hi : Int) < x.toInt := by
  rcases Int.lt_or_le x.toInt lo with h1 | h1
  · exact Or.inl h1
  · rcases Int.lt_or_le hi x.toInt with h2 | h2
    · exact Or.inr h2
    · exact absurd (by rw [← Int32.toInt_inj, nI_toInt (by omega)]; omega) (h x.toInt.toNat (by omega) (by omega))
set_option maxRecDepth 20000 in
theorem c_Net_deliveredX {G : Gt} {K N : Nat → Nat} {I : Nat → Nat → Int32} {R : Nat → Nat → Option Nat} {L : Nat → Nat → Int64} {E : Nat → Nat → Int32} {El : Nat → Nat → Int64} {Er : Nat → Nat → Option Nat} {Γ : Gm} {ρ : Nat → Nat} {s : Sa} (hR : RepN Γ ρ K N I R L E El Er s) {x : Int32} (hx : inZ x (nI 0) (nI 5) = false) : CallT G m_Net_delivered 7 95 [.ref (Γ 0 0), .int x] (hN K N I R L E El Er) 1 6 0 (fun h' => h' = (hN K N I R L E El Er)) := by
  refine CallS.of (Nat.le_of_ble_eq_true rfl) ?_
  refine wp_aload_n d_Net_delivered_0 rfl 0 rfl ?_
  refine wp_iload_n d_Net_delivered_1 rfl 1 rfl ?_
  exact wp_callT (k' := 1) (n' := 6) (r := 0) d_Net_delivered_2 (link_V (as := [.int x]) (rest := []) (r := (R_Net, T_Net, 7)) d_Net_delivered_2 cal_Net_switchAt wM_Net_39 rfl (hN_o (hR.nt.1) (by decide)) rfl) cal_Net_switchAt rfl (c_Net_switchAtX hx) (Nat.le_of_ble_eq_true rfl) ⟨Nat.le_of_ble_eq_true rfl, Nat.le_of_ble_eq_true rfl⟩ (fun h' q => ⟨rfl, q⟩)
set_option maxRecDepth 20000 in
theorem c_Net_delivered1 {G : Gt} {K N : Nat → Nat} {I : Nat → Nat → Int32} {R : Nat → Nat → Option Nat} {L : Nat → Nat → Int64} {E : Nat → Nat → Int32} {El : Nat → Nat → Int64} {Er : Nat → Nat → Option Nat} {Γ : Gm} {ρ : Nat → Nat} {s : Sa} (hR : RepN Γ ρ K N I R L E El Er s) {x : Nat} (hx : x < 6) : CallR G m_Net_delivered 1 13 [.ref (Γ 0 0), .int (nI x)] (hN K N I R L E El Er) 0 0 (some (.int (nI ((sDk s x).length)))) (hN K N I R L E El Er) := by
  refine CallS.of (Nat.le_of_ble_eq_true rfl) ?_
  refine wp_aload_n d_Net_delivered_0 rfl 0 rfl ?_
  refine wp_iload_n d_Net_delivered_1 rfl 1 rfl ?_
  refine wp_callV (r := 0) d_Net_delivered_2 (link_V (as := [.int (nI x)]) (rest := []) (r := (R_Net, T_Net, 7)) d_Net_delivered_2 cal_Net_switchAt wM_Net_39 rfl (hN_o (hR.nt.1) (by decide)) rfl) cal_Net_switchAt (c_Net_switchAt hR hx) (Nat.le_of_ble_eq_true rfl) ⟨Nat.le_of_ble_eq_true rfl, Nat.le_of_ble_eq_true rfl⟩ ?_
  refine wn_get_Swt d_Net_delivered_5 ((hR.sw x hx).2.1) 4 (by decide) wF_Net_211 rfl ?_
  refine wp_toI (z := (nI ((sDk s x).length))) ((hR.sw x hx).2.2.2.2.2.2.2.2.2.2.2.2.2.1) ?_
  exact wp_iret d_Net_delivered_8 rfl ⟨rfl, rfl⟩
theorem n_Net_delivered {G : Gt} {K N : Nat → Nat} {I : Nat → Nat → Int32} {R : Nat → Nat → Option Nat} {L : Nat → Nat → Int64} {E : Nat → Nat → Int32} {El : Nat → Nat → Int64} {Er : Nat → Nat → Option Nat} {Γ : Gm} {ρ : Nat → Nat} {s : Sa} (hR : RepN Γ ρ K N I R L E El Er s) (x : Int32) : CallN G m_Net_delivered 7 95 [.ref (Γ 0 0), .int x] (hN K N I R L E El Er) 1 6 (stDelivered s x) false (Γ 0 0) := by
  unfold stDelivered swB
  cases hx : inZ x (nI 0) (nI 5) with
  | false => exact CallN.ofT (c_Net_deliveredX hR hx) (by decide) (by decide) (by decide) (by decide) rfl hR.okT
  | true =>
    obtain ⟨j, hj, rfl⟩ := inZ_of (by decide) hx
    exact CallN.ofR (c_Net_delivered1 hR (show j < 6 by omega)) (by decide) (by decide) (by decide) (by decide) (by rw [nN_nI (by omega)]; rfl) hR.ok
set_option maxRecDepth 20000 in
theorem c_Net_countOfAll3 {G : Gt} {K N : Nat → Nat} {I : Nat → Nat → Int32} {R : Nat → Nat → Option Nat} {L : Nat → Nat → Int64} {E : Nat → Nat → Int32} {El : Nat → Nat → Int64} {Er : Nat → Nat → Option Nat} {Γ : Gm} {ρ : Nat → Nat} {s : Sa} (hR : RepN Γ ρ K N I R L E El Er s) : CallR G m_Net_countOfAll 0 0 [.ref (Γ 0 0), .int (nI 3)] (hN K N I R L E El Er) 0 0 (some (.int (nI (sMin s)))) (hN K N I R L E El Er) := by
  refine CallS.of (Nat.le_of_ble_eq_true rfl) ?_
  refine wp_iload_n d_Net_countOfAll_0 rfl 1 rfl ?_
  refine wp_iconst (v := nI 3) d_Net_countOfAll_1 (by decide) ?_
  refine wp_neN (tgt := 10) d_Net_countOfAll_2 (by decide) (by omega) (by omega) (fun c => absurd c (by decide)) (fun _ => ?_)
  refine wp_aload_n d_Net_countOfAll_5 rfl 0 rfl ?_
  refine wn_get_Net d_Net_countOfAll_6 (hR.nt.1) 6 (by decide) wF_Net_139 rfl ?_
  refine wp_toI (z := (nI (sMin s))) (hR.nt.2.2.2.2.2.2.2.1) ?_
  exact wp_iret d_Net_countOfAll_9 rfl ⟨rfl, rfl⟩
set_option maxRecDepth 20000 in
theorem c_Net_countOfAll4 {G : Gt} {K N : Nat → Nat} {I : Nat → Nat → Int32} {R : Nat → Nat → Option Nat} {L : Nat → Nat → Int64} {E : Nat → Nat → Int32} {El : Nat → Nat → Int64} {Er : Nat → Nat → Option Nat} {Γ : Gm} {ρ : Nat → Nat} {s : Sa} (hR : RepN Γ ρ K N I R L E El Er s) : CallR G m_Net_countOfAll 0 0 [.ref (Γ 0 0), .int (nI 4)] (hN K N I R L E El Er) 0 0 (some (.int (nI ((sMs s).length)))) (hN K N I R L E El Er) := by
  refine CallS.of (Nat.le_of_ble_eq_true rfl) ?_
  refine wp_iload_n d_Net_countOfAll_0 rfl 1 rfl ?_
  refine wp_iconst (v := nI 3) d_Net_countOfAll_1 (by decide) ?_
  refine wp_neN (tgt := 10) d_Net_countOfAll_2 (by decide) (by omega) (by omega) (fun _ => ?_) (fun c => absurd c (by decide))
  refine wp_iload_n d_Net_countOfAll_10 rfl 1 rfl ?_
  refine wp_iconst (v := nI 4) d_Net_countOfAll_11 (by decide) ?_
  refine wp_neN (tgt := 20) d_Net_countOfAll_12 (by decide) (by omega) (by omega) (fun c => absurd c (by decide)) (fun _ => ?_)
  refine wp_aload_n d_Net_countOfAll_15 rfl 0 rfl ?_
  refine wn_get_Net d_Net_countOfAll_16 (hR.nt.1) 5 (by decide) wF_Net_103 rfl ?_
  refine wp_toI (z := (nI ((sMs s).length))) (hR.nt.2.2.2.2.2.2.1) ?_
  exact wp_iret d_Net_countOfAll_19 rfl ⟨rfl, rfl⟩
set_option maxRecDepth 20000 in
theorem c_Net_countOfAllX {G : Gt} {K N : Nat → Nat} {I : Nat → Nat → Int32} {R : Nat → Nat → Option Nat} {L : Nat → Nat → Int64} {E : Nat → Nat → Int32} {El : Nat → Nat → Int64} {Er : Nat → Nat → Option Nat} {o : Nat} {x : Int32} (h3 : ¬ x = nI 3) (h4 : ¬ x = nI 4) : CallT G m_Net_countOfAll 6 82 [.ref o, .int x] (hN K N I R L E El Er) 1 6 0 (fun h' => h' = (hN K N I R L E El Er)) := by
  refine CallS.of (Nat.le_of_ble_eq_true rfl) ?_
  refine wp_iload_n d_Net_countOfAll_0 rfl 1 rfl ?_
  refine wp_iconst (v := nI 3) d_Net_countOfAll_1 (by decide) ?_
  refine wp_icmp_ne (tgt := 10) d_Net_countOfAll_2 (by decide) (fun c2 => ?_) (fun c2 => ?_)
  · refine wp_iload_n d_Net_countOfAll_10 rfl 1 rfl ?_
    refine wp_iconst (v := nI 4) d_Net_countOfAll_11 (by decide) ?_
    refine wp_icmp_ne (tgt := 20) d_Net_countOfAll_12 (by decide) (fun c12 => ?_) (fun c12 => ?_)
    · exact wp_throwSW (x := 0) d_Net_countOfAll_20 d_Net_countOfAll_23 d_Net_countOfAll_24 d_Net_countOfAll_27 d_Net_countOfAll_30 th_Net_47 wE_Net_43 wS_Net_268 rfl ⟨Nat.le_of_ble_eq_true rfl, Nat.le_of_ble_eq_true rfl⟩ ⟨rfl, rfl⟩
    · exact absurd c12 h4
  · exact absurd c2 h3
set_option maxRecDepth 20000 in
theorem c_Net_count3 {G : Gt} {K N : Nat → Nat} {I : Nat → Nat → Int32} {R : Nat → Nat → Option Nat} {L : Nat → Nat → Int64} {E : Nat → Nat → Int32} {El : Nat → Nat → Int64} {Er : Nat → Nat → Option Nat} {Γ : Gm} {ρ : Nat → Nat} {s : Sa} (hR : RepN Γ ρ K N I R L E El Er s) : CallR G m_Net_count 1 13 [.ref (Γ 0 0), .int (-1), .int (nI 3)] (hN K N I R L E El Er) 0 0 (some (.int (nI (sMin s)))) (hN K N I R L E El Er) := by
  refine CallS.of (Nat.le_of_ble_eq_true rfl) ?_
  refine wp_iload_n d_Net_count_0 rfl 1 rfl ?_
  refine wp_iconst (v := -1) d_Net_count_1 (by decide) ?_
  refine wp_icmp_ne (tgt := 11) d_Net_count_2 (by decide) (fun c => absurd c (by decide)) (fun _ => ?_)
  refine wp_aload_n d_Net_count_5 rfl 0 rfl ?_
  refine wp_iload_n d_Net_count_6 rfl 2 rfl ?_
  refine wp_callV (r := 0) d_Net_count_7 (link_V (as := [.int (nI 3)]) (rest := []) (r := (R_Net, T_Net, 7)) d_Net_count_7 cal_Net_countOfAll wM_Net_253 rfl (hN_o (hR.nt.1) (by decide)) rfl) cal_Net_countOfAll (c_Net_countOfAll3 hR) (Nat.le_of_ble_eq_true rfl) ⟨Nat.le_of_ble_eq_true rfl, Nat.le_of_ble_eq_true rfl⟩ ?_
  exact wp_iret d_Net_count_10 rfl ⟨rfl, rfl⟩
set_option maxRecDepth 20000 in
theorem c_Net_count4 {G : Gt} {K N : Nat → Nat} {I : Nat → Nat → Int32} {R : Nat → Nat → Option Nat} {L : Nat → Nat → Int64} {E : Nat → Nat → Int32} {El : Nat → Nat → Int64} {Er : Nat → Nat → Option Nat} {Γ : Gm} {ρ : Nat → Nat} {s : Sa} (hR : RepN Γ ρ K N I R L E El Er s) : CallR G m_Net_count 1 13 [.ref (Γ 0 0), .int (-1), .int (nI 4)] (hN K N I R L E El Er) 0 0 (some (.int (nI ((sMs s).length)))) (hN K N I R L E El Er) := by
  refine CallS.of (Nat.le_of_ble_eq_true rfl) ?_
  refine wp_iload_n d_Net_count_0 rfl 1 rfl ?_
  refine wp_iconst (v := -1) d_Net_count_1 (by decide) ?_
  refine wp_icmp_ne (tgt := 11) d_Net_count_2 (by decide) (fun c => absurd c (by decide)) (fun _ => ?_)
  refine wp_aload_n d_Net_count_5 rfl 0 rfl ?_
  refine wp_iload_n d_Net_count_6 rfl 2 rfl ?_
  refine wp_callV (r := 0) d_Net_count_7 (link_V (as := [.int (nI 4)]) (rest := []) (r := (R_Net, T_Net, 7)) d_Net_count_7 cal_Net_countOfAll wM_Net_253 rfl (hN_o (hR.nt.1) (by decide)) rfl) cal_Net_countOfAll (c_Net_countOfAll4 hR) (Nat.le_of_ble_eq_true rfl) ⟨Nat.le_of_ble_eq_true rfl, Nat.le_of_ble_eq_true rfl⟩ ?_
  exact wp_iret d_Net_count_10 rfl ⟨rfl, rfl⟩
set_option maxRecDepth 20000 in
theorem c_Net_countAX {G : Gt} {K N : Nat → Nat} {I : Nat → Nat → Int32} {R : Nat → Nat → Option Nat} {L : Nat → Nat → Int64} {E : Nat → Nat → Int32} {El : Nat → Nat → Int64} {Er : Nat → Nat → Option Nat} {Γ : Gm} {ρ : Nat → Nat} {s : Sa} (hR : RepN Γ ρ K N I R L E El Er s) {x : Int32} (h3 : ¬ x = nI 3) (h4 : ¬ x = nI 4) : CallT G m_Net_count 7 95 [.ref (Γ 0 0), .int (-1), .int x] (hN K N I R L E El Er) 1 6 0 (fun h' => h' = (hN K N I R L E El Er)) := by
  refine CallS.of (Nat.le_of_ble_eq_true rfl) ?_
  refine wp_iload_n d_Net_count_0 rfl 1 rfl ?_
  refine wp_iconst (v := -1) d_Net_count_1 (by decide) ?_
  refine wp_icmp_ne (tgt := 11) d_Net_count_2 (by decide) (fun c => absurd c (by decide)) (fun _ => ?_)
  refine wp_aload_n d_Net_count_5 rfl 0 rfl ?_
  refine wp_iload_n d_Net_count_6 rfl 2 rfl ?_
  exact wp_callT (k' := 1) (n' := 6) (r := 0) d_Net_count_7 (link_V (as := [.int x]) (rest := []) (r := (R_Net, T_Net, 7)) d_Net_count_7 cal_Net_countOfAll wM_Net_253 rfl (hN_o (hR.nt.1) (by decide)) rfl) cal_Net_countOfAll rfl (c_Net_countOfAllX h3 h4) (Nat.le_of_ble_eq_true rfl) ⟨Nat.le_of_ble_eq_true rfl, Nat.le_of_ble_eq_true rfl⟩ (fun h' q => ⟨rfl, q⟩)
set_option maxRecDepth 20000 in
theorem c_Net_countSX {G : Gt} {K N : Nat → Nat} {I : Nat → Nat → Int32} {R : Nat → Nat → Option Nat} {L : Nat → Nat → Int64} {E : Nat → Nat → Int32} {El : Nat → Nat → Int64} {Er : Nat → Nat → Option Nat} {Γ : Gm} {ρ : Nat → Nat} {s : Sa} (hR : RepN Γ ρ K N I R L E El Er s) {x z : Int32} (hx1 : ¬ x = -1) (hx : inZ x (nI 0) (nI 5) = false) : CallT G m_Net_count 7 95 [.ref (Γ 0 0), .int x, .int z] (hN K N I R L E El Er) 1 6 0 (fun h' => h' = (hN K N I R L E El Er)) := by
  refine CallS.of (Nat.le_of_ble_eq_true rfl) ?_
  refine wp_iload_n d_Net_count_0 rfl 1 rfl ?_
  refine wp_iconst (v := -1) d_Net_count_1 (by decide) ?_
  refine wp_icmp_ne (tgt := 11) d_Net_count_2 (by decide) (fun c2 => ?_) (fun c2 => ?_)
  · refine wp_aload_n d_Net_count_11 rfl 0 rfl ?_
    refine wp_iload_n d_Net_count_12 rfl 1 rfl ?_
    exact wp_callT (k' := 1) (n' := 6) (r := 0) d_Net_count_13 (link_V (as := [.int x]) (rest := []) (r := (R_Net, T_Net, 7)) d_Net_count_13 cal_Net_switchAt wM_Net_39 rfl (hN_o (hR.nt.1) (by decide)) rfl) cal_Net_switchAt rfl (c_Net_switchAtX hx) (Nat.le_of_ble_eq_true rfl) ⟨Nat.le_of_ble_eq_true rfl, Nat.le_of_ble_eq_true rfl⟩ (fun h' q => ⟨rfl, q⟩)
  · exact absurd c2 hx1
theorem hl_n {Γ : Gm} {ρ K : Nat → Nat} {I : Nat → Nat → Int32} {R : Nat → Nat → Option Nat} {s : Sa} {x : Nat} (h : LsC Γ ρ K I R (800000 + x) (Γ 4 x) (hlF s x)) : K (Γ 4 x) = 3 + 1 ∧ I 20 (Γ 4 x) = nI ((sCp s).countP fun c => c.1 == 16 + x) := by
  obtain ⟨ps, hc, he, -⟩ := h
  refine ⟨hc.1, ?_⟩
  rw [hc.2.2.2.1, List.countP_eq_length_filter, List.length_map]
  have : ps.length = (ps.map Prod.snd).length := by rw [List.length_map]
  rw [this, he]
  rfl
set_option maxRecDepth 20000 in
theorem c_Net_count_0 {G : Gt} {K N : Nat → Nat} {I : Nat → Nat → Int32} {R : Nat → Nat → Option Nat} {L : Nat → Nat → Int64} {E : Nat → Nat → Int32} {El : Nat → Nat → Int64} {Er : Nat → Nat → Option Nat} {Γ : Gm} {ρ : Nat → Nat} {s : Sa} (hR : RepN Γ ρ K N I R L E El Er s) {x : Nat} (hx : x < 6) : CallR G m_Net_count 1 13 [.ref (Γ 0 0), .int (nI x), .int (nI 0)] (hN K N I R L E El Er) 0 0 (some (.int (nI (sUn s x)))) (hN K N I R L E El Er) := by
  refine CallS.of (Nat.le_of_ble_eq_true rfl) ?_
  refine wp_iload_n d_Net_count_0 rfl 1 rfl ?_
  refine wp_iconst (v := -1) d_Net_count_1 (by decide) ?_
  refine wp_icmp_ne (tgt := 11) d_Net_count_2 (by decide) (fun _ => ?_) (fun c => absurd c (nI_m1 (by omega)))
  refine wp_aload_n d_Net_count_11 rfl 0 rfl ?_
  refine wp_iload_n d_Net_count_12 rfl 1 rfl ?_
  refine wp_callV (r := 0) d_Net_count_13 (link_V (as := [.int (nI x)]) (rest := []) (r := (R_Net, T_Net, 7)) d_Net_count_13 cal_Net_switchAt wM_Net_39 rfl (hN_o (hR.nt.1) (by decide)) rfl) cal_Net_switchAt (c_Net_switchAt hR hx) (Nat.le_of_ble_eq_true rfl) ⟨Nat.le_of_ble_eq_true rfl, Nat.le_of_ble_eq_true rfl⟩ ?_
  refine wp_astore_n (lv' := [(3, .ref (Γ 1 x)), (0, .ref (Γ 0 0)), (1, .int (nI x)), (2, .int (nI 0))]) d_Net_count_16 rfl (by decide) rfl ?_
  refine wp_iload_n d_Net_count_17 rfl 3 rfl ?_
  refine wp_tableIn (tgt := 44) d_Net_count_18 (by decide) (by decide) rfl (by decide) ?_
  refine wp_aload_n d_Net_count_44 rfl 0 rfl ?_
  refine wn_get_Swt d_Net_count_45 ((hR.sw x hx).2.1) 6 (by decide) wF_Net_256 rfl ?_
  refine wp_toI (z := (nI (sUn s x))) ((hR.sw x hx).2.2.2.2.2.2.2.2.2.2.2.2.2.2.2.1) ?_
  exact wp_iret d_Net_count_48 rfl ⟨rfl, rfl⟩
set_option maxRecDepth 20000 in
theorem c_Net_count_1 {G : Gt} {K N : Nat → Nat} {I : Nat → Nat → Int32} {R : Nat → Nat → Option Nat} {L : Nat → Nat → Int64} {E : Nat → Nat → Int32} {El : Nat → Nat → Int64} {Er : Nat → Nat → Option Nat} {Γ : Gm} {ρ : Nat → Nat} {s : Sa} (hR : RepN Γ ρ K N I R L E El Er s) {x : Nat} (hx : x < 6) : CallR G m_Net_count 1 13 [.ref (Γ 0 0), .int (nI x), .int (nI 1)] (hN K N I R L E El Er) 0 0 (some (.int (nI (sDb s x)))) (hN K N I R L E El Er) := by
  refine CallS.of (Nat.le_of_ble_eq_true rfl) ?_
  refine wp_iload_n d_Net_count_0 rfl 1 rfl ?_
  refine wp_iconst (v := -1) d_Net_count_1 (by decide) ?_
  refine wp_icmp_ne (tgt := 11) d_Net_count_2 (by decide) (fun _ => ?_) (fun c => absurd c (nI_m1 (by omega)))
  refine wp_aload_n d_Net_count_11 rfl 0 rfl ?_
  refine wp_iload_n d_Net_count_12 rfl 1 rfl ?_
  refine wp_callV (r := 0) d_Net_count_13 (link_V (as := [.int (nI x)]) (rest := []) (r := (R_Net, T_Net, 7)) d_Net_count_13 cal_Net_switchAt wM_Net_39 rfl (hN_o (hR.nt.1) (by decide)) rfl) cal_Net_switchAt (c_Net_switchAt hR hx) (Nat.le_of_ble_eq_true rfl) ⟨Nat.le_of_ble_eq_true rfl, Nat.le_of_ble_eq_true rfl⟩ ?_
  refine wp_astore_n (lv' := [(3, .ref (Γ 1 x)), (0, .ref (Γ 0 0)), (1, .int (nI x)), (2, .int (nI 1))]) d_Net_count_16 rfl (by decide) rfl ?_
  refine wp_iload_n d_Net_count_17 rfl 3 rfl ?_
  refine wp_tableIn (tgt := 49) d_Net_count_18 (by decide) (by decide) rfl (by decide) ?_
  refine wp_aload_n d_Net_count_49 rfl 0 rfl ?_
  refine wn_get_Swt d_Net_count_50 ((hR.sw x hx).2.1) 7 (by decide) wF_Net_259 rfl ?_
  refine wp_toI (z := (nI (sDb s x))) ((hR.sw x hx).2.2.2.2.2.2.2.2.2.2.2.2.2.2.2.2) ?_
  exact wp_iret d_Net_count_53 rfl ⟨rfl, rfl⟩
set_option maxRecDepth 20000 in
theorem c_Net_count_2 {G : Gt} {K N : Nat → Nat} {I : Nat → Nat → Int32} {R : Nat → Nat → Option Nat} {L : Nat → Nat → Int64} {E : Nat → Nat → Int32} {El : Nat → Nat → Int64} {Er : Nat → Nat → Option Nat} {Γ : Gm} {ρ : Nat → Nat} {s : Sa} (hR : RepN Γ ρ K N I R L E El Er s) {x : Nat} (hx : x < 6) : CallR G m_Net_count 1 13 [.ref (Γ 0 0), .int (nI x), .int (nI 2)] (hN K N I R L E El Er) 0 0 (some (.int (nI ((sCp s).countP fun c => c.1 == 16 + x)))) (hN K N I R L E El Er) := by
  refine CallS.of (Nat.le_of_ble_eq_true rfl) ?_
  refine wp_iload_n d_Net_count_0 rfl 1 rfl ?_
  refine wp_iconst (v := -1) d_Net_count_1 (by decide) ?_
  refine wp_icmp_ne (tgt := 11) d_Net_count_2 (by decide) (fun _ => ?_) (fun c => absurd c (nI_m1 (by omega)))
  refine wp_aload_n d_Net_count_11 rfl 0 rfl ?_
  refine wp_iload_n d_Net_count_12 rfl 1 rfl ?_
  refine wp_callV (r := 0) d_Net_count_13 (link_V (as := [.int (nI x)]) (rest := []) (r := (R_Net, T_Net, 7)) d_Net_count_13 cal_Net_switchAt wM_Net_39 rfl (hN_o (hR.nt.1) (by decide)) rfl) cal_Net_switchAt (c_Net_switchAt hR hx) (Nat.le_of_ble_eq_true rfl) ⟨Nat.le_of_ble_eq_true rfl, Nat.le_of_ble_eq_true rfl⟩ ?_
  refine wp_astore_n (lv' := [(3, .ref (Γ 1 x)), (0, .ref (Γ 0 0)), (1, .int (nI x)), (2, .int (nI 2))]) d_Net_count_16 rfl (by decide) rfl ?_
  refine wp_iload_n d_Net_count_17 rfl 3 rfl ?_
  refine wp_tableIn (tgt := 54) d_Net_count_18 (by decide) (by decide) rfl (by decide) ?_
  refine wp_aload_n d_Net_count_54 rfl 0 rfl ?_
  refine wn_get_Swt d_Net_count_55 ((hR.sw x hx).2.1) 2 (by decide) wF_Net_262 rfl ?_
  refine wp_toVR (o := some (Γ 4 x)) (z := .ref (Γ 4 x)) ((hR.sw x hx).2.2.2.2.2.1) rfl ?_
  refine wn_get_Lst d_Net_count_58 ((hl_n (hR.hl x hx).2).1) 2 (by decide) wF_Net_236 rfl ?_
  refine wp_toI (z := (nI ((sCp s).countP fun c => c.1 == 16 + x))) ((hl_n (hR.hl x hx).2).2) ?_
  exact wp_iret d_Net_count_61 rfl ⟨rfl, rfl⟩
set_option maxRecDepth 20000 in
theorem c_Net_count_X {G : Gt} {K N : Nat → Nat} {I : Nat → Nat → Int32} {R : Nat → Nat → Option Nat} {L : Nat → Nat → Int64} {E : Nat → Nat → Int32} {El : Nat → Nat → Int64} {Er : Nat → Nat → Option Nat} {Γ : Gm} {ρ : Nat → Nat} {s : Sa} (hR : RepN Γ ρ K N I R L E El Er s) {x : Nat} {z : Int32} (hx : x < 6) (h0 : ¬ z = nI 0) (h1 : ¬ z = nI 1) (h2 : ¬ z = nI 2) : CallT G m_Net_count 6 82 [.ref (Γ 0 0), .int (nI x), .int z] (hN K N I R L E El Er) 1 6 0 (fun h' => h' = (hN K N I R L E El Er)) := by
  refine CallS.of (Nat.le_of_ble_eq_true rfl) ?_
  refine wp_iload_n d_Net_count_0 rfl 1 rfl ?_
  refine wp_iconst (v := -1) d_Net_count_1 (by decide) ?_
  refine wp_icmp_ne (tgt := 11) d_Net_count_2 (by decide) (fun _ => ?_) (fun c => absurd c (nI_m1 (by omega)))
  refine wp_aload_n d_Net_count_11 rfl 0 rfl ?_
  refine wp_iload_n d_Net_count_12 rfl 1 rfl ?_
  refine wp_callV (r := 0) d_Net_count_13 (link_V (as := [.int (nI x)]) (rest := []) (r := (R_Net, T_Net, 7)) d_Net_count_13 cal_Net_switchAt wM_Net_39 rfl (hN_o (hR.nt.1) (by decide)) rfl) cal_Net_switchAt (c_Net_switchAt hR hx) (Nat.le_of_ble_eq_true rfl) ⟨Nat.le_of_ble_eq_true rfl, Nat.le_of_ble_eq_true rfl⟩ ?_
  refine wp_astore_n (lv' := [(3, .ref (Γ 1 x)), (0, .ref (Γ 0 0)), (1, .int (nI x)), (2, .int z)]) d_Net_count_16 rfl (by decide) rfl ?_
  refine wp_iload_n d_Net_count_17 rfl 3 rfl ?_
  refine wp_tableOut (tgt := 62) d_Net_count_18 (tab_out (lo := 0) (hi := 2) (by decide) (fun j h9 h8 => by rcases (show j = 0 ∨ j = 1 ∨ j = 2 by omega) with rfl | rfl | rfl <;> assumption)) (by decide) ?_
  exact wp_throwSW (x := 0) d_Net_count_62 d_Net_count_65 d_Net_count_66 d_Net_count_69 d_Net_count_72 th_Net_47 wE_Net_43 wS_Net_266 rfl ⟨Nat.le_of_ble_eq_true rfl, Nat.le_of_ble_eq_true rfl⟩ ⟨rfl, rfl⟩
theorem n_Net_count {G : Gt} {K N : Nat → Nat} {I : Nat → Nat → Int32} {R : Nat → Nat → Option Nat} {L : Nat → Nat → Int64} {E : Nat → Nat → Int32} {El : Nat → Nat → Int64} {Er : Nat → Nat → Option Nat} {Γ : Gm} {ρ : Nat → Nat} {s : Sa} (hR : RepN Γ ρ K N I R L E El Er s) (x w : Int32) : CallN G m_Net_count 7 95 [.ref (Γ 0 0), .int x, .int w] (hN K N I R L E El Er) 1 6 (stCount s x w) false (Γ 0 0) := by
  unfold stCount swB
  by_cases hm : x = -1
  · subst hm
    rw [if_pos rfl]
    by_cases h3 : w = nI 3
    · subst h3
      rw [if_pos rfl]
      exact CallN.ofR (c_Net_count3 hR) (by decide) (by decide) (by decide) (by decide) rfl hR.ok
    · rw [if_neg h3]
      by_cases h4 : w = nI 4
      · subst h4
        rw [if_pos rfl]
        exact CallN.ofR (c_Net_count4 hR) (by decide) (by decide) (by decide) (by decide) rfl hR.ok
      · rw [if_neg h4]
        exact CallN.ofT (c_Net_countAX hR h3 h4) (by decide) (by decide) (by decide) (by decide) rfl hR.okT
  · rw [if_neg hm]
    cases hx : inZ x (nI 0) (nI 5) with
    | false => exact CallN.ofT (c_Net_countSX hR hm hx) (by decide) (by decide) (by decide) (by decide) rfl hR.okT
    | true =>
      obtain ⟨j, hj, rfl⟩ := inZ_of (by decide) hx
      rw [if_pos rfl, nN_nI (by omega)]
      by_cases h0 : w = nI 0
      · subst h0
        rw [if_pos rfl]
        exact CallN.ofR (c_Net_count_0 hR (show j < 6 by omega)) (by decide) (by decide) (by decide) (by decide) rfl hR.ok
      · rw [if_neg h0]
        by_cases h1 : w = nI 1
        · subst h1
          rw [if_pos rfl]
          exact CallN.ofR (c_Net_count_1 hR (show j < 6 by omega)) (by decide) (by decide) (by decide) (by decide) rfl hR.ok
        · rw [if_neg h1]
          by_cases h2 : w = nI 2
          · subst h2
            rw [if_pos rfl]
            exact CallN.ofR (c_Net_count_2 hR (show j < 6 by omega)) (by decide) (by decide) (by decide) (by decide) rfl hR.ok
          · rw [if_neg h2]
            exact CallN.ofT (c_Net_count_X hR (show j < 6 by omega) h0 h1 h2) (by decide) (by decide) (by decide) (by decide) rfl hR.okT
set_option maxRecDepth 20000 in
theorem c_Net_channelLX {G : Gt} {K N : Nat → Nat} {I : Nat → Nat → Int32} {R : Nat → Nat → Option Nat} {L : Nat → Nat → Int64} {E : Nat → Nat → Int32} {El : Nat → Nat → Int64} {Er : Nat → Nat → Option Nat} {Γ : Gm} {ρ : Nat → Nat} {s : Sa} (hR : RepN Γ ρ K N I R L E El Er s) {x c w : Int32} (hx : hasB (lnB s) x = false) : CallT G m_Net_channel 7 95 [.ref (Γ 0 0), .int x, .int c, .int w] (hN K N I R L E El Er) 1 6 0 (fun h' => h' = (hN K N I R L E El Er)) := by
  refine CallS.of (Nat.le_of_ble_eq_true rfl) ?_
  refine wp_aload_n d_Net_channel_0 rfl 0 rfl ?_
  refine wp_iload_n d_Net_channel_1 rfl 1 rfl ?_
  exact wp_callT (k' := 1) (n' := 6) (r := 0) d_Net_channel_2 (link_V (as := [.int x]) (rest := []) (r := (R_Net, T_Net, 7)) d_Net_channel_2 cal_Net_lineAt wM_Net_127 rfl (hN_o (hR.nt.1) (by decide)) rfl) cal_Net_lineAt rfl (c_Net_lineAtX hR hx) (Nat.le_of_ble_eq_true rfl) ⟨Nat.le_of_ble_eq_true rfl, Nat.le_of_ble_eq_true rfl⟩ (fun h' q => ⟨rfl, q⟩)
set_option maxRecDepth 20000 in
theorem c_Net_channelCX {G : Gt} {K N : Nat → Nat} {I : Nat → Nat → Int32} {R : Nat → Nat → Option Nat} {L : Nat → Nat → Int64} {E : Nat → Nat → Int32} {El : Nat → Nat → Int64} {Er : Nat → Nat → Option Nat} {Γ : Gm} {ρ : Nat → Nat} {s : Sa} (hR : RepN Γ ρ K N I R L E El Er s) {l a b : Nat} {v : Bool} (hl : l < 8) (hv : sLn s l = some (a, b, v)) {c w : Int32} (hx : inZ c (nI 0) (nI 1) = false) : CallT G m_Net_channel 7 95 [.ref (Γ 0 0), .int (nI l), .int c, .int w] (hN K N I R L E El Er) 1 6 0 (fun h' => h' = (hN K N I R L E El Er)) := by
  refine CallS.of (Nat.le_of_ble_eq_true rfl) ?_
  refine wp_aload_n d_Net_channel_0 rfl 0 rfl ?_
  refine wp_iload_n d_Net_channel_1 rfl 1 rfl ?_
  refine wp_callV (r := 0) d_Net_channel_2 (link_V (as := [.int (nI l)]) (rest := []) (r := (R_Net, T_Net, 7)) d_Net_channel_2 cal_Net_lineAt wM_Net_127 rfl (hN_o (hR.nt.1) (by decide)) rfl) cal_Net_lineAt (c_Net_lineAt hR hl hv) (Nat.le_of_ble_eq_true rfl) ⟨Nat.le_of_ble_eq_true rfl, Nat.le_of_ble_eq_true rfl⟩ ?_
  refine wp_iload_n d_Net_channel_5 rfl 2 rfl ?_
  exact wp_callT (k' := 1) (n' := 6) (r := 0) d_Net_channel_6 (link_V (as := [.int c]) (rest := []) (r := (R_Lin, T_Lin, 5)) d_Net_channel_6 cal_Lin_channelAt wM_Net_131 rfl (hN_o (((hR.li l hl).2 _ _ _ hv).2.1) (by decide)) rfl) cal_Lin_channelAt rfl (c_Lin_channelAtX hx) (Nat.le_of_ble_eq_true rfl) ⟨Nat.le_of_ble_eq_true rfl, Nat.le_of_ble_eq_true rfl⟩ (fun h' q => ⟨rfl, q⟩)
theorem qu_n {Γ : Gm} {ρ K : Nat → Nat} {I : Nat → Nat → Int32} {R : Nat → Nat → Option Nat} {s : Sa} {t l c p : Nat} (h : LsC Γ ρ K I R t l (quF s c p)) : K l = 3 + 1 ∧ I 20 l = nI ((sCp s).countP fun q => q.1 == c && prioOf s q.2.1 == p) := by
  obtain ⟨ps, hc, he, -⟩ := h
  refine ⟨hc.1, ?_⟩
  rw [hc.2.2.2.1, List.countP_eq_length_filter, List.length_map]
  have : ps.length = (ps.map Prod.snd).length := by rw [List.length_map]
  rw [this, he]
  rfl
theorem rg_n {Γ : Gm} {K N : Nat → Nat} {I : Nat → Nat → Int32} {R Er : Nat → Nat → Option Nat} {f r cap : Nat} {sent fs : List (Nat × Nat)} (h : RgF Γ K N I R Er f r cap sent fs) : K f = 7 + 1 ∧ I 37 f = nI fs.length := by
  obtain ⟨ps, hc, he, -⟩ := h
  refine ⟨hc.1, ?_⟩
  obtain ⟨st, -, -, h3, -⟩ := hc.2.2.2.2.2
  rw [h3, List.length_map, ← he, List.length_map]
theorem kpF_n (d : Ch) : (kpF d).length = cKept d := by simp [kpF]
set_option maxRecDepth 20000 in
theorem c_Net_channelQ {G : Gt} {K N : Nat → Nat} {I : Nat → Nat → Int32} {R : Nat → Nat → Option Nat} {L : Nat → Nat → Int64} {E : Nat → Nat → Int32} {El : Nat → Nat → Int64} {Er : Nat → Nat → Option Nat} {Γ : Gm} {ρ : Nat → Nat} {s : Sa} (hR : RepN Γ ρ K N I R L E El Er s) {l a b : Nat} {v : Bool} (hl : l < 8) (hv : sLn s l = some (a, b, v)) {c : Nat} (hc : c < 2) {p : Nat} (hp : p < 5) : CallR G m_Net_channel 7 95 [.ref (Γ 0 0), .int (nI l), .int (nI c), .int (nI p)] (hN K N I R L E El Er) 0 0 (some (.int (nI ((sCp s).countP fun q => q.1 == 2 * l + c && prioOf s q.2.1 == p)))) (hN K N I R L E El Er) := by
  have hc16 : 2 * l + c < 16 := by omega
  have hs : (sLn s ((2 * l + c) / 2)).isSome = true := by rw [show (2 * l + c) / 2 = l by omega, hv]; rfl
  refine CallS.of (Nat.le_of_ble_eq_true rfl) ?_
  refine wp_aload_n d_Net_channel_0 rfl 0 rfl ?_
  refine wp_iload_n d_Net_channel_1 rfl 1 rfl ?_
  refine wp_callV (r := 0) d_Net_channel_2 (link_V (as := [.int (nI l)]) (rest := []) (r := (R_Net, T_Net, 7)) d_Net_channel_2 cal_Net_lineAt wM_Net_127 rfl (hN_o (hR.nt.1) (by decide)) rfl) cal_Net_lineAt (c_Net_lineAt hR hl hv) (Nat.le_of_ble_eq_true rfl) ⟨Nat.le_of_ble_eq_true rfl, Nat.le_of_ble_eq_true rfl⟩ ?_
  refine wp_iload_n d_Net_channel_5 rfl 2 rfl ?_
  refine wp_callV (r := 0) d_Net_channel_6 (link_V (as := [.int (nI c)]) (rest := []) (r := (R_Lin, T_Lin, 5)) d_Net_channel_6 cal_Lin_channelAt wM_Net_131 rfl (hN_o (((hR.li l hl).2 _ _ _ hv).2.1) (by decide)) rfl) cal_Lin_channelAt (c_Lin_channelAt hR hl hv hc) (Nat.le_of_ble_eq_true rfl) ⟨Nat.le_of_ble_eq_true rfl, Nat.le_of_ble_eq_true rfl⟩ ?_
  refine wp_astore (lv' := [(4, .ref (Γ 7 (2 * l + c))), (0, .ref (Γ 0 0)), (1, .int (nI l)), (2, .int (nI c)), (3, .int (nI p))]) d_Net_channel_9 (by decide) rfl ?_
  refine wp_iload_n d_Net_channel_11 rfl 4 rfl ?_
  refine wp_if_ltN (tgt := 31) d_Net_channel_12 (by decide) (by omega) ?_
  refine wp_iload_n d_Net_channel_15 rfl 4 rfl ?_
  refine wp_iconst (v := nI 5) d_Net_channel_16 (by decide) ?_
  refine wp_geN (tgt := 31) d_Net_channel_17 (by decide) (by omega) (by omega) (fun c17 => ?_) (fun c17 => ?_)
  · exact absurd c17 (by omega)
  · refine wp_aload d_Net_channel_20 0 rfl ?_
    refine wn_get_Chn d_Net_channel_22 ((hR.ci (2 * l + c) hc16 hs).1) 0 (by decide) wF_Net_232 rfl ?_
    refine wp_toVR (o := some (Γ 8 (2 * l + c))) (z := .ref (Γ 8 (2 * l + c))) ((hR.ci (2 * l + c) hc16 hs).2.2.1) rfl ?_
    refine wp_iload_n d_Net_channel_25 rfl 4 rfl ?_
    refine wn_ald (x := some (Γ 9 (5 * (2 * l + c) + p))) d_Net_channel_26 ((hR.ci (2 * l + c) hc16 hs).2.2.2.2.2.1) rfl (by decide) (by rw [(hR.ci (2 * l + c) hc16 hs).2.2.2.2.2.2.1]; omega) (by rw [(hR.ci (2 * l + c) hc16 hs).2.2.2.2.2.2.1]; omega) ((hR.qu _ hc16 hs p hp).1) ?_
    refine wn_get_Lst d_Net_channel_27 ((qu_n (hR.qu _ hc16 hs p hp).2.2).1) 2 (by decide) wF_Net_236 rfl ?_
    refine wp_toI (z := (nI ((sCp s).countP fun q => q.1 == 2 * l + c && prioOf s q.2.1 == p))) ((qu_n (hR.qu _ hc16 hs p hp).2.2).2) ?_
    exact wp_iret d_Net_channel_30 rfl ⟨rfl, rfl⟩
set_option maxRecDepth 20000 in
theorem c_Net_channel5 {G : Gt} {K N : Nat → Nat} {I : Nat → Nat → Int32} {R : Nat → Nat → Option Nat} {L : Nat → Nat → Int64} {E : Nat → Nat → Int32} {El : Nat → Nat → Int64} {Er : Nat → Nat → Option Nat} {Γ : Gm} {ρ : Nat → Nat} {s : Sa} (hR : RepN Γ ρ K N I R L E El Er s) {l a b : Nat} {v : Bool} (hl : l < 8) (hv : sLn s l = some (a, b, v)) {c : Nat} (hc : c < 2) : CallR G m_Net_channel 7 95 [.ref (Γ 0 0), .int (nI l), .int (nI c), .int (nI 5)] (hN K N I R L E El Er) 0 0 (some (.int (nI ((kpF (sCh s (2 * l + c))).length)))) (hN K N I R L E El Er) := by
  have hc16 : 2 * l + c < 16 := by omega
  have hs : (sLn s ((2 * l + c) / 2)).isSome = true := by rw [show (2 * l + c) / 2 = l by omega, hv]; rfl
  refine CallS.of (Nat.le_of_ble_eq_true rfl) ?_
  refine wp_aload_n d_Net_channel_0 rfl 0 rfl ?_
  refine wp_iload_n d_Net_channel_1 rfl 1 rfl ?_
  refine wp_callV (r := 0) d_Net_channel_2 (link_V (as := [.int (nI l)]) (rest := []) (r := (R_Net, T_Net, 7)) d_Net_channel_2 cal_Net_lineAt wM_Net_127 rfl (hN_o (hR.nt.1) (by decide)) rfl) cal_Net_lineAt (c_Net_lineAt hR hl hv) (Nat.le_of_ble_eq_true rfl) ⟨Nat.le_of_ble_eq_true rfl, Nat.le_of_ble_eq_true rfl⟩ ?_
  refine wp_iload_n d_Net_channel_5 rfl 2 rfl ?_
  refine wp_callV (r := 0) d_Net_channel_6 (link_V (as := [.int (nI c)]) (rest := []) (r := (R_Lin, T_Lin, 5)) d_Net_channel_6 cal_Lin_channelAt wM_Net_131 rfl (hN_o (((hR.li l hl).2 _ _ _ hv).2.1) (by decide)) rfl) cal_Lin_channelAt (c_Lin_channelAt hR hl hv hc) (Nat.le_of_ble_eq_true rfl) ⟨Nat.le_of_ble_eq_true rfl, Nat.le_of_ble_eq_true rfl⟩ ?_
  refine wp_astore (lv' := [(4, .ref (Γ 7 (2 * l + c))), (0, .ref (Γ 0 0)), (1, .int (nI l)), (2, .int (nI c)), (3, .int (nI 5))]) d_Net_channel_9 (by decide) rfl ?_
  refine wp_iload_n d_Net_channel_11 rfl 4 rfl ?_
  refine wp_if_ltN (tgt := 31) d_Net_channel_12 (by decide) (by omega) ?_
  refine wp_iload_n d_Net_channel_15 rfl 4 rfl ?_
  refine wp_iconst (v := nI 5) d_Net_channel_16 (by decide) ?_
  refine wp_geN (tgt := 31) d_Net_channel_17 (by decide) (by omega) (by omega) (fun _ => ?_) (fun c => absurd c (by decide))
  refine wp_iload_n d_Net_channel_31 rfl 4 rfl ?_
  refine wp_tableIn (tgt := 64) d_Net_channel_32 (by decide) (by decide) rfl (by decide) ?_
  refine wp_aload d_Net_channel_64 0 rfl ?_
  refine wn_get_Chn d_Net_channel_66 ((hR.ci (2 * l + c) hc16 hs).1) 1 (by decide) wF_Net_241 rfl ?_
  refine wp_toVR (o := some (Γ 10 (2 * l + c))) (z := .ref (Γ 10 (2 * l + c))) ((hR.ci (2 * l + c) hc16 hs).2.2.2.1) rfl ?_
  refine wn_get_Frs d_Net_channel_69 ((rg_n (hR.ri _ hc16 hs).2.2.2.2.1).1) 2 (by decide) wF_Net_244 rfl ?_
  refine wp_toI (z := (nI ((kpF (sCh s (2 * l + c))).length))) ((rg_n (hR.ri _ hc16 hs).2.2.2.2.1).2) ?_
  exact wp_iret d_Net_channel_72 rfl ⟨rfl, rfl⟩
set_option maxRecDepth 20000 in
theorem c_Net_channel6 {G : Gt} {K N : Nat → Nat} {I : Nat → Nat → Int32} {R : Nat → Nat → Option Nat} {L : Nat → Nat → Int64} {E : Nat → Nat → Int32} {El : Nat → Nat → Int64} {Er : Nat → Nat → Option Nat} {Γ : Gm} {ρ : Nat → Nat} {s : Sa} (hR : RepN Γ ρ K N I R L E El Er s) {l a b : Nat} {v : Bool} (hl : l < 8) (hv : sLn s l = some (a, b, v)) {c : Nat} (hc : c < 2) : CallR G m_Net_channel 7 95 [.ref (Γ 0 0), .int (nI l), .int (nI c), .int (nI 6)] (hN K N I R L E El Er) 0 0 (some (.int (nI ((cWire (sCh s (2 * l + c))).length)))) (hN K N I R L E El Er) := by
  have hc16 : 2 * l + c < 16 := by omega
  have hs : (sLn s ((2 * l + c) / 2)).isSome = true := by rw [show (2 * l + c) / 2 = l by omega, hv]; rfl
  refine CallS.of (Nat.le_of_ble_eq_true rfl) ?_
  refine wp_aload_n d_Net_channel_0 rfl 0 rfl ?_
  refine wp_iload_n d_Net_channel_1 rfl 1 rfl ?_
  refine wp_callV (r := 0) d_Net_channel_2 (link_V (as := [.int (nI l)]) (rest := []) (r := (R_Net, T_Net, 7)) d_Net_channel_2 cal_Net_lineAt wM_Net_127 rfl (hN_o (hR.nt.1) (by decide)) rfl) cal_Net_lineAt (c_Net_lineAt hR hl hv) (Nat.le_of_ble_eq_true rfl) ⟨Nat.le_of_ble_eq_true rfl, Nat.le_of_ble_eq_true rfl⟩ ?_
  refine wp_iload_n d_Net_channel_5 rfl 2 rfl ?_
  refine wp_callV (r := 0) d_Net_channel_6 (link_V (as := [.int (nI c)]) (rest := []) (r := (R_Lin, T_Lin, 5)) d_Net_channel_6 cal_Lin_channelAt wM_Net_131 rfl (hN_o (((hR.li l hl).2 _ _ _ hv).2.1) (by decide)) rfl) cal_Lin_channelAt (c_Lin_channelAt hR hl hv hc) (Nat.le_of_ble_eq_true rfl) ⟨Nat.le_of_ble_eq_true rfl, Nat.le_of_ble_eq_true rfl⟩ ?_
  refine wp_astore (lv' := [(4, .ref (Γ 7 (2 * l + c))), (0, .ref (Γ 0 0)), (1, .int (nI l)), (2, .int (nI c)), (3, .int (nI 6))]) d_Net_channel_9 (by decide) rfl ?_
  refine wp_iload_n d_Net_channel_11 rfl 4 rfl ?_
  refine wp_if_ltN (tgt := 31) d_Net_channel_12 (by decide) (by omega) ?_
  refine wp_iload_n d_Net_channel_15 rfl 4 rfl ?_
  refine wp_iconst (v := nI 5) d_Net_channel_16 (by decide) ?_
  refine wp_geN (tgt := 31) d_Net_channel_17 (by decide) (by omega) (by omega) (fun _ => ?_) (fun c => absurd c (by decide))
  refine wp_iload_n d_Net_channel_31 rfl 4 rfl ?_
  refine wp_tableIn (tgt := 73) d_Net_channel_32 (by decide) (by decide) rfl (by decide) ?_
  refine wp_aload d_Net_channel_73 0 rfl ?_
  refine wn_get_Chn d_Net_channel_75 ((hR.ci (2 * l + c) hc16 hs).1) 2 (by decide) wF_Net_148 rfl ?_
  refine wp_toVR (o := some (Γ 12 (2 * l + c))) (z := .ref (Γ 12 (2 * l + c))) ((hR.ci (2 * l + c) hc16 hs).2.2.2.2.1) rfl ?_
  refine wn_get_Frs d_Net_channel_78 ((rg_n (hR.ri _ hc16 hs).2.2.2.2.2).1) 2 (by decide) wF_Net_244 rfl ?_
  refine wp_toI (z := (nI ((cWire (sCh s (2 * l + c))).length))) ((rg_n (hR.ri _ hc16 hs).2.2.2.2.2).2) ?_
  exact wp_iret d_Net_channel_81 rfl ⟨rfl, rfl⟩
set_option maxRecDepth 20000 in
theorem c_Net_channel7 {G : Gt} {K N : Nat → Nat} {I : Nat → Nat → Int32} {R : Nat → Nat → Option Nat} {L : Nat → Nat → Int64} {E : Nat → Nat → Int32} {El : Nat → Nat → Int64} {Er : Nat → Nat → Option Nat} {Γ : Gm} {ρ : Nat → Nat} {s : Sa} (hR : RepN Γ ρ K N I R L E El Er s) {l a b : Nat} {v : Bool} (hl : l < 8) (hv : sLn s l = some (a, b, v)) {c : Nat} (hc : c < 2) : CallR G m_Net_channel 7 95 [.ref (Γ 0 0), .int (nI l), .int (nI c), .int (nI 7)] (hN K N I R L E El Er) 0 0 (some (.int (nI ((cSent (sCh s (2 * l + c))).length + 1)))) (hN K N I R L E El Er) := by
  have hc16 : 2 * l + c < 16 := by omega
  have hs : (sLn s ((2 * l + c) / 2)).isSome = true := by rw [show (2 * l + c) / 2 = l by omega, hv]; rfl
  refine CallS.of (Nat.le_of_ble_eq_true rfl) ?_
  refine wp_aload_n d_Net_channel_0 rfl 0 rfl ?_
  refine wp_iload_n d_Net_channel_1 rfl 1 rfl ?_
  refine wp_callV (r := 0) d_Net_channel_2 (link_V (as := [.int (nI l)]) (rest := []) (r := (R_Net, T_Net, 7)) d_Net_channel_2 cal_Net_lineAt wM_Net_127 rfl (hN_o (hR.nt.1) (by decide)) rfl) cal_Net_lineAt (c_Net_lineAt hR hl hv) (Nat.le_of_ble_eq_true rfl) ⟨Nat.le_of_ble_eq_true rfl, Nat.le_of_ble_eq_true rfl⟩ ?_
  refine wp_iload_n d_Net_channel_5 rfl 2 rfl ?_
  refine wp_callV (r := 0) d_Net_channel_6 (link_V (as := [.int (nI c)]) (rest := []) (r := (R_Lin, T_Lin, 5)) d_Net_channel_6 cal_Lin_channelAt wM_Net_131 rfl (hN_o (((hR.li l hl).2 _ _ _ hv).2.1) (by decide)) rfl) cal_Lin_channelAt (c_Lin_channelAt hR hl hv hc) (Nat.le_of_ble_eq_true rfl) ⟨Nat.le_of_ble_eq_true rfl, Nat.le_of_ble_eq_true rfl⟩ ?_
  refine wp_astore (lv' := [(4, .ref (Γ 7 (2 * l + c))), (0, .ref (Γ 0 0)), (1, .int (nI l)), (2, .int (nI c)), (3, .int (nI 7))]) d_Net_channel_9 (by decide) rfl ?_
  refine wp_iload_n d_Net_channel_11 rfl 4 rfl ?_
  refine wp_if_ltN (tgt := 31) d_Net_channel_12 (by decide) (by omega) ?_
  refine wp_iload_n d_Net_channel_15 rfl 4 rfl ?_
  refine wp_iconst (v := nI 5) d_Net_channel_16 (by decide) ?_
  refine wp_geN (tgt := 31) d_Net_channel_17 (by decide) (by omega) (by omega) (fun _ => ?_) (fun c => absurd c (by decide))
  refine wp_iload_n d_Net_channel_31 rfl 4 rfl ?_
  refine wp_tableIn (tgt := 82) d_Net_channel_32 (by decide) (by decide) rfl (by decide) ?_
  refine wp_aload d_Net_channel_82 0 rfl ?_
  refine wn_get_Chn d_Net_channel_84 ((hR.ci (2 * l + c) hc16 hs).1) 3 (by decide) wF_Net_245 rfl ?_
  refine wp_toI (z := (nI ((cSent (sCh s (2 * l + c))).length + 1))) ((hR.ci (2 * l + c) hc16 hs).2.2.2.2.2.2.2.1) ?_
  exact wp_iret d_Net_channel_87 rfl ⟨rfl, rfl⟩
set_option maxRecDepth 20000 in
theorem c_Net_channel8 {G : Gt} {K N : Nat → Nat} {I : Nat → Nat → Int32} {R : Nat → Nat → Option Nat} {L : Nat → Nat → Int64} {E : Nat → Nat → Int32} {El : Nat → Nat → Int64} {Er : Nat → Nat → Option Nat} {Γ : Gm} {ρ : Nat → Nat} {s : Sa} (hR : RepN Γ ρ K N I R L E El Er s) {l a b : Nat} {v : Bool} (hl : l < 8) (hv : sLn s l = some (a, b, v)) {c : Nat} (hc : c < 2) : CallR G m_Net_channel 7 95 [.ref (Γ 0 0), .int (nI l), .int (nI c), .int (nI 8)] (hN K N I R L E El Er) 0 0 (some (.int (nI (cExp (sCh s (2 * l + c)))))) (hN K N I R L E El Er) := by
  have hc16 : 2 * l + c < 16 := by omega
  have hs : (sLn s ((2 * l + c) / 2)).isSome = true := by rw [show (2 * l + c) / 2 = l by omega, hv]; rfl
  refine CallS.of (Nat.le_of_ble_eq_true rfl) ?_
  refine wp_aload_n d_Net_channel_0 rfl 0 rfl ?_
  refine wp_iload_n d_Net_channel_1 rfl 1 rfl ?_
  refine wp_callV (r := 0) d_Net_channel_2 (link_V (as := [.int (nI l)]) (rest := []) (r := (R_Net, T_Net, 7)) d_Net_channel_2 cal_Net_lineAt wM_Net_127 rfl (hN_o (hR.nt.1) (by decide)) rfl) cal_Net_lineAt (c_Net_lineAt hR hl hv) (Nat.le_of_ble_eq_true rfl) ⟨Nat.le_of_ble_eq_true rfl, Nat.le_of_ble_eq_true rfl⟩ ?_
  refine wp_iload_n d_Net_channel_5 rfl 2 rfl ?_
  refine wp_callV (r := 0) d_Net_channel_6 (link_V (as := [.int (nI c)]) (rest := []) (r := (R_Lin, T_Lin, 5)) d_Net_channel_6 cal_Lin_channelAt wM_Net_131 rfl (hN_o (((hR.li l hl).2 _ _ _ hv).2.1) (by decide)) rfl) cal_Lin_channelAt (c_Lin_channelAt hR hl hv hc) (Nat.le_of_ble_eq_true rfl) ⟨Nat.le_of_ble_eq_true rfl, Nat.le_of_ble_eq_true rfl⟩ ?_
  refine wp_astore (lv' := [(4, .ref (Γ 7 (2 * l + c))), (0, .ref (Γ 0 0)), (1, .int (nI l)), (2, .int (nI c)), (3, .int (nI 8))]) d_Net_channel_9 (by decide) rfl ?_
  refine wp_iload_n d_Net_channel_11 rfl 4 rfl ?_
  refine wp_if_ltN (tgt := 31) d_Net_channel_12 (by decide) (by omega) ?_
  refine wp_iload_n d_Net_channel_15 rfl 4 rfl ?_
  refine wp_iconst (v := nI 5) d_Net_channel_16 (by decide) ?_
  refine wp_geN (tgt := 31) d_Net_channel_17 (by decide) (by omega) (by omega) (fun _ => ?_) (fun c => absurd c (by decide))
  refine wp_iload_n d_Net_channel_31 rfl 4 rfl ?_
  refine wp_tableIn (tgt := 88) d_Net_channel_32 (by decide) (by decide) rfl (by decide) ?_
  refine wp_aload d_Net_channel_88 0 rfl ?_
  refine wn_get_Chn d_Net_channel_90 ((hR.ci (2 * l + c) hc16 hs).1) 4 (by decide) wF_Net_248 rfl ?_
  refine wp_toI (z := (nI (cExp (sCh s (2 * l + c))))) ((hR.ci (2 * l + c) hc16 hs).2.2.2.2.2.2.2.2.1) ?_
  exact wp_iret d_Net_channel_93 rfl ⟨rfl, rfl⟩
set_option maxRecDepth 20000 in
theorem c_Net_channelWX {G : Gt} {K N : Nat → Nat} {I : Nat → Nat → Int32} {R : Nat → Nat → Option Nat} {L : Nat → Nat → Int64} {E : Nat → Nat → Int32} {El : Nat → Nat → Int64} {Er : Nat → Nat → Option Nat} {Γ : Gm} {ρ : Nat → Nat} {s : Sa} (hR : RepN Γ ρ K N I R L E El Er s) {l a b : Nat} {v : Bool} (hl : l < 8) (hv : sLn s l = some (a, b, v)) {c : Nat} (hc : c < 2) {w : Int32} (hw : inZ w (nI 0) (nI 8) = false) : CallT G m_Net_channel 7 95 [.ref (Γ 0 0), .int (nI l), .int (nI c), .int w] (hN K N I R L E El Er) 1 6 0 (fun h' => h' = (hN K N I R L E El Er)) := by
  have hc16 : 2 * l + c < 16 := by omega
  have hs : (sLn s ((2 * l + c) / 2)).isSome = true := by rw [show (2 * l + c) / 2 = l by omega, hv]; rfl
  refine CallS.of (Nat.le_of_ble_eq_true rfl) ?_
  refine wp_aload_n d_Net_channel_0 rfl 0 rfl ?_
  refine wp_iload_n d_Net_channel_1 rfl 1 rfl ?_
  refine wp_callV (r := 0) d_Net_channel_2 (link_V (as := [.int (nI l)]) (rest := []) (r := (R_Net, T_Net, 7)) d_Net_channel_2 cal_Net_lineAt wM_Net_127 rfl (hN_o (hR.nt.1) (by decide)) rfl) cal_Net_lineAt (c_Net_lineAt hR hl hv) (Nat.le_of_ble_eq_true rfl) ⟨Nat.le_of_ble_eq_true rfl, Nat.le_of_ble_eq_true rfl⟩ ?_
  refine wp_iload_n d_Net_channel_5 rfl 2 rfl ?_
  refine wp_callV (r := 0) d_Net_channel_6 (link_V (as := [.int (nI c)]) (rest := []) (r := (R_Lin, T_Lin, 5)) d_Net_channel_6 cal_Lin_channelAt wM_Net_131 rfl (hN_o (((hR.li l hl).2 _ _ _ hv).2.1) (by decide)) rfl) cal_Lin_channelAt (c_Lin_channelAt hR hl hv hc) (Nat.le_of_ble_eq_true rfl) ⟨Nat.le_of_ble_eq_true rfl, Nat.le_of_ble_eq_true rfl⟩ ?_
  refine wp_astore (lv' := [(4, .ref (Γ 7 (2 * l + c))), (0, .ref (Γ 0 0)), (1, .int (nI l)), (2, .int (nI c)), (3, .int w)]) d_Net_channel_9 (by decide) rfl ?_
  refine wp_iload_n d_Net_channel_11 rfl 4 rfl ?_
  refine wp_if_lt (tgt := 31) d_Net_channel_12 (by decide) (fun c12 => ?_) (fun c12 => ?_)
  · refine wp_iload_n d_Net_channel_31 rfl 4 rfl ?_
    refine wp_tableOut (tgt := 94) d_Net_channel_32 (tab_out (lo := 5) (hi := 8) (by decide) (fun j h9 h8 e => by rw [e, inZ_nI (by omega) (by decide) (by decide)] at hw; exact absurd (of_decide_eq_false hw) (fun z => z ⟨by omega, by omega⟩))) (by decide) ?_
    exact wp_throwS (x := 0) d_Net_channel_94 d_Net_channel_97 d_Net_channel_98 d_Net_channel_100 d_Net_channel_103 th_Net_47 wE_Net_43 wS_Net_251 rfl ⟨Nat.le_of_ble_eq_true rfl, Nat.le_of_ble_eq_true rfl⟩ ⟨rfl, rfl⟩
  · refine wp_iload_n d_Net_channel_15 rfl 4 rfl ?_
    refine wp_iconst (v := nI 5) d_Net_channel_16 (by decide) ?_
    refine wp_icmp_ge (tgt := 31) d_Net_channel_17 (by decide) (fun c17 => ?_) (fun c17 => ?_)
    · refine wp_iload_n d_Net_channel_31 rfl 4 rfl ?_
      refine wp_tableOut (tgt := 94) d_Net_channel_32 (tab_out (lo := 5) (hi := 8) (by decide) (fun j h9 h8 e => by rw [e, inZ_nI (by omega) (by decide) (by decide)] at hw; exact absurd (of_decide_eq_false hw) (fun z => z ⟨by omega, by omega⟩))) (by decide) ?_
      exact wp_throwS (x := 0) d_Net_channel_94 d_Net_channel_97 d_Net_channel_98 d_Net_channel_100 d_Net_channel_103 th_Net_47 wE_Net_43 wS_Net_251 rfl ⟨Nat.le_of_ble_eq_true rfl, Nat.le_of_ble_eq_true rfl⟩ ⟨rfl, rfl⟩
    · exact absurd hw (by rw [inZ_58 (Int32.not_lt.mp c12) (Int32.not_le.mp c17)]; decide)
end Cls12
