section Cls27
theorem srv_some {s : Sa} {l a b : Nat} {w v : Bool} (hv : sLn s l = some (a, b, w)) (i : Nat) : (sLn (wLn s (va_up (sLn s) l (some (a, b, v)))) i).isSome = (sLn s i).isSome := by
  show (va_up (sLn s) l (some (a, b, v)) i).isSome = _
  by_cases hi : i = l
  · subst hi
    simp [va_up, hv]
  · simp [va_up, hi]
theorem srv_deg {s : Sa} {l a b : Nat} {w v : Bool} (hv : sLn s l = some (a, b, w)) (x : Nat) : degree (wLn s (va_up (sLn s) l (some (a, b, v)))) x = degree s x := by
  unfold degree
  congr 2
  funext i
  by_cases hi : i = l
  · subst hi
    have e : sLn (wLn s (va_up (sLn s) i (some (a, b, v)))) i = some (a, b, v) := by
      show va_up (sLn s) i (some (a, b, v)) i = _
      simp [va_up]
    unfold atSw
    rw [e, hv]
  · have e : sLn (wLn s (va_up (sLn s) l (some (a, b, v)))) i = sLn s i := by
      show va_up (sLn s) l (some (a, b, v)) i = _
      simp [va_up, hi]
    unfold atSw
    rw [e]
/-- a line goes in or out of service -/
theorem RepN.srv {Γ : Gm} {ρ : Nat → Nat} {K N : Nat → Nat} {I : Nat → Nat → Int32} {R : Nat → Nat → Option Nat} {L : Nat → Nat → Int64} {E : Nat → Nat → Int32} {El : Nat → Nat → Int64} {Er : Nat → Nat → Option Nat} {s : Sa} (h : RepN Γ ρ K N I R L E El Er s) {l a b : Nat} {w v : Bool} (hl : l < 8) (hv : sLn s l = some (a, b, w)) : RepN Γ ρ K N (u2 I 42 (Γ 6 l) (bI v)) R L E El Er (wLn s (va_up (sLn s) l (some (a, b, v)))) := by
  have F : Fr0 ρ ρ K N K N I (u2 I 42 (Γ 6 l) (bI v)) R R L L E E El El Er Er [42] [] [] [] [] := ⟨fun _ _ => ⟨rfl, rfl, rfl⟩, fun g2 q2 hg2 _ => by rw [u2_ne _ _ (fun e => hg2 (by rw [e]; exact List.mem_singleton.mpr rfl))], fun _ _ _ _ => rfl, fun _ _ _ => rfl, fun _ _ _ => rfl, fun _ _ _ => rfl, fun _ _ _ => rfl⟩
  have hD : DF K (u2 I 42 (Γ 6 l) (bI v)) R L E El Er := DF.pI h.df (by have := ((h.li l hl).2 a b w hv).2.1; omega)
  have hs : ∀ i, (sLn (wLn s (va_up (sLn s) l (some (a, b, v)))) i).isSome = true → (sLn s i).isSome = true := fun i hi => by rw [srv_some hv] at hi; exact hi
  refine ⟨hD, h.nt.fr F (by decide) (fun _ _ => List.not_mem_nil), h.dr, ?_, h.en.fr F (fun x hx => by have := (h.sw x hx).2.2.2.2.2.2.1; omega) (fun g h1 h2 hm => by simp only [List.mem_cons, List.not_mem_nil, or_false] at hm; omega) (fun _ _ => List.not_mem_nil), h.dk, h.hl.fr F (by decide) (by decide), ?_, fun c hc hs2 => (h.ci.fr F (fun g h1 h2 hm => by simp only [List.mem_cons, List.not_mem_nil, or_false] at hm; omega) (fun _ _ _ => List.not_mem_nil)) c hc (hs _ hs2), fun c hc hs2 => (h.qu.fr F (fun c hc hs => by have := (h.ci c hc hs).2.2.2.2.2.1; omega) (by decide) (by decide) (fun _ _ _ => List.not_mem_nil)) c hc (hs _ hs2), fun c hc hs2 => (h.ri.fr F (by decide) (by decide) (fun _ _ _ => ⟨List.not_mem_nil, List.not_mem_nil⟩)) c hc (hs _ hs2), h.mg.fr F (by have := h.nt.2.2.2.2.2.2.2.2.2.2.2.2.1; omega) (by decide) (by decide) (fun _ _ => ⟨List.not_mem_nil, List.not_mem_nil⟩) List.not_mem_nil⟩
  · intro x hx
    rw [srv_deg hv]
    exact (h.sw.fr F (by have := h.nt.2.2.2.2.2.2.2.2.1; omega) (fun g h1 h2 hm => by simp only [List.mem_cons, List.not_mem_nil, or_false] at hm; omega) (fun _ _ _ => List.not_mem_nil) List.not_mem_nil) x hx
  · intro i hi
    by_cases hil : i = l
    · subst hil
      refine ⟨fun hn => ?_, fun a2 b2 v2 h2 => ?_⟩
      · have : va_up (sLn s) i (some (a, b, v)) i = none := hn
        simp [va_up] at this
      · have : va_up (sLn s) i (some (a, b, v)) i = some (a2, b2, v2) := h2
        simp [va_up] at this
        obtain ⟨rfl, rfl, rfl⟩ := this
        obtain ⟨a1, a2, a3, a4, a5, a6, a7, a8⟩ := (h.li i hi).2 a b w hv
        exact ⟨a1, a2, a3, by rw [u2_ne _ _ (by decide)]; exact a4, by rw [u2_ne _ _ (by decide)]; exact a5, a6, a7, by rw [u2_at, if_pos rfl]⟩
    · have e : sLn (wLn s (va_up (sLn s) l (some (a, b, v)))) i = sLn s i := by
        show va_up (sLn s) l (some (a, b, v)) i = _
        simp [va_up, hil]
      rw [e]
      refine ⟨(h.li i hi).1, fun a2 b2 v2 h2 => ?_⟩
      obtain ⟨a1, a2, a3, a4, a5, a6, a7, a8⟩ := (h.li i hi).2 a2 b2 v2 h2
      have p3 := ((h.li l hl).2 a b w hv).2.2.1
      exact ⟨a1, a2, a3, by rw [u2_ne _ _ (by decide)]; exact a4, by rw [u2_ne _ _ (by decide)]; exact a5, a6, a7, by rw [u2_q _ _ (fun e => by rw [e, p3] at a3; omega)]; exact a8⟩
set_option maxRecDepth 20000 in
theorem c_Lin_loseFrames {G : Gt} {K N : Nat → Nat} {I : Nat → Nat → Int32} {R : Nat → Nat → Option Nat} {L : Nat → Nat → Int64} {E : Nat → Nat → Int32} {El : Nat → Nat → Int64} {Er : Nat → Nat → Option Nat} {Γ : Gm} {ρ : Nat → Nat} {s : Sa} (hR : RepN Γ ρ K N I R L E El Er s) {l a b : Nat} {v : Bool} (hl : l < 8) (hv : sLn s l = some (a, b, v)) : CallE G m_Lin_loseFrames 1 12 [.ref (Γ 6 l)] (hN K N I R L E El Er) 0 0 none (NetK Γ ((ch1 (ch1 s (2 * l) (wWire (sCh s (2 * l)) [])) (2 * l + 1) (wWire (sCh (ch1 s (2 * l) (wWire (sCh s (2 * l)) [])) (2 * l + 1)) []))) K I R) := by
  have h0 : 2 * l < 16 := by omega
  have h1 : 2 * l + 1 < 16 := by omega
  have hs0 : (sLn s (2 * l / 2)).isSome = true := by rw [show 2 * l / 2 = l by omega, hv]; rfl
  have hs1 : (sLn s ((2 * l + 1) / 2)).isSome = true := by rw [show (2 * l + 1) / 2 = l by omega, hv]; rfl
  refine CallS.of (Nat.le_of_ble_eq_true rfl) ?_
  refine wp_aload_n d_Lin_loseFrames_0 rfl 0 rfl ?_
  refine wn_get_Lin d_Lin_loseFrames_1 (((hR.li l hl).2 _ _ _ hv).2.1) 2 (by decide) wF_Lin_10 rfl ?_
  refine wp_toVR (o := some (Γ 7 (2 * l))) (z := .ref (Γ 7 (2 * l))) (((hR.li l hl).2 _ _ _ hv).2.2.2.2.2.1) rfl ?_
  refine wn_get_Chn d_Lin_loseFrames_4 ((hR.ci (2 * l) h0 hs0).1) 2 (by decide) wF_Lin_37 rfl ?_
  refine wp_toVR (o := some (Γ 12 (2 * l))) (z := .ref (Γ 12 (2 * l))) ((hR.ci (2 * l) h0 hs0).2.2.2.2.1) rfl ?_
  refine wp_callEU (k' := 0) (n' := 0) (r := 0) d_Lin_loseFrames_7 (link_V (as := []) (rest := []) (r := (R_Frs, T_Frs, 3)) d_Lin_loseFrames_7 cal_Frs_loseAll wM_Lin_41 rfl (hN_o ((rg_n (hR.ri (2 * l) h0 hs0).2.2.2.2.2).1) (by decide)) rfl) cal_Frs_loseAll (((hR.ri (2 * l) h0 hs0).2.2.2.2.2).lose) (Nat.le_of_ble_eq_true rfl) ⟨Nat.le_of_ble_eq_true rfl, Nat.le_of_ble_eq_true rfl⟩ (fun h' q7 => ?_)
  obtain ⟨I1, rfl, f1, f2⟩ := q7
  have hR1 := hR.wire h0 hs0 f1 fE_refl f2
  refine wp_aload_n d_Lin_loseFrames_10 rfl 0 rfl ?_
  refine wn_get_Lin d_Lin_loseFrames_11 (((hR.li l hl).2 _ _ _ hv).2.1) 3 (by decide) wF_Lin_16 rfl ?_
  refine wp_toVR (o := some (Γ 7 (2 * l + 1))) (z := .ref (Γ 7 (2 * l + 1))) (((hR.li l hl).2 _ _ _ hv).2.2.2.2.2.2.1) rfl ?_
  refine wn_get_Chn d_Lin_loseFrames_14 ((hR.ci (2 * l + 1) h1 hs1).1) 2 (by decide) wF_Lin_37 rfl ?_
  refine wp_toVR (o := some (Γ 12 (2 * l + 1))) (z := .ref (Γ 12 (2 * l + 1))) ((hR.ci (2 * l + 1) h1 hs1).2.2.2.2.1) rfl ?_
  refine wp_callEU (k' := 0) (n' := 0) (r := 0) d_Lin_loseFrames_17 (link_V (as := []) (rest := []) (r := (R_Frs, T_Frs, 3)) d_Lin_loseFrames_17 cal_Frs_loseAll wM_Lin_41 rfl (hN_o ((rg_n (hR.ri (2 * l + 1) h1 hs1).2.2.2.2.2).1) (by decide)) rfl) cal_Frs_loseAll (((hR1.ri (2 * l + 1) h1 hs1).2.2.2.2.2).lose) (Nat.le_of_ble_eq_true rfl) ⟨Nat.le_of_ble_eq_true rfl, Nat.le_of_ble_eq_true rfl⟩ (fun h' q17 => ?_)
  obtain ⟨I2, rfl, f3, f4⟩ := q17
  have hR2 := hR1.wire h1 hs1 f3 fE_refl f4
  exact wp_vret d_Lin_loseFrames_20 rfl ⟨rfl, _, _, _, _, _, _, _, _, _, rfl, hR2, (Kp_f f1).tr (Kp_f f3)⟩
set_option maxRecDepth 20000 in
theorem c_Net_serveLX {G : Gt} {K N : Nat → Nat} {I : Nat → Nat → Int32} {R : Nat → Nat → Option Nat} {L : Nat → Nat → Int64} {E : Nat → Nat → Int32} {El : Nat → Nat → Int64} {Er : Nat → Nat → Option Nat} {Γ : Gm} {ρ : Nat → Nat} {s : Sa} (hR : RepN Γ ρ K N I R L E El Er s) {x : Int32} {v : Bool} (hx : hasB (lnB s) x = false) : CallT G m_Net_serve 7 95 [.ref (Γ 0 0), .int x, .int (bI v)] (hN K N I R L E El Er) 1 6 0 (fun h' => h' = (hN K N I R L E El Er)) := by
  refine CallS.of (Nat.le_of_ble_eq_true rfl) ?_
  refine wp_aload_n d_Net_serve_0 rfl 0 rfl ?_
  refine wp_iload_n d_Net_serve_1 rfl 1 rfl ?_
  exact wp_callT (k' := 1) (n' := 6) (r := 0) d_Net_serve_2 (link_V (as := [.int x]) (rest := []) (r := (R_Net, T_Net, 7)) d_Net_serve_2 cal_Net_lineAt wM_Net_127 rfl (hN_o (hR.nt.1) (by decide)) rfl) cal_Net_lineAt rfl (c_Net_lineAtX hR hx) (Nat.le_of_ble_eq_true rfl) ⟨Nat.le_of_ble_eq_true rfl, Nat.le_of_ble_eq_true rfl⟩ (fun h' q => ⟨rfl, q⟩)
theorem bI_nI1 : bI true = nI 1 := rfl
theorem bI_nI0 : bI false = nI 0 := rfl
set_option maxRecDepth 20000 in
theorem c_Net_serve0 {G : Gt} {K N : Nat → Nat} {I : Nat → Nat → Int32} {R : Nat → Nat → Option Nat} {L : Nat → Nat → Int64} {E : Nat → Nat → Int32} {El : Nat → Nat → Int64} {Er : Nat → Nat → Option Nat} {Γ : Gm} {ρ : Nat → Nat} {s : Sa} (hR : RepN Γ ρ K N I R L E El Er s) {l a b : Nat} {v : Bool} (hl : l < 8) (hv : sLn s l = some (a, b, v)) : CallR G m_Net_serve 2 26 [.ref (Γ 0 0), .int (nI l), .int (bI v)] (hN K N I R L E El Er) 0 0 (some (.int (bI false))) (hN K N I R L E El Er) := by
  refine CallS.of (Nat.le_of_ble_eq_true rfl) ?_
  refine wp_aload_n d_Net_serve_0 rfl 0 rfl ?_
  refine wp_iload_n d_Net_serve_1 rfl 1 rfl ?_
  refine wp_callV (r := 0) d_Net_serve_2 (link_V (as := [.int (nI l)]) (rest := []) (r := (R_Net, T_Net, 7)) d_Net_serve_2 cal_Net_lineAt wM_Net_127 rfl (hN_o (hR.nt.1) (by decide)) rfl) cal_Net_lineAt (c_Net_lineAt hR hl hv) (Nat.le_of_ble_eq_true rfl) ⟨Nat.le_of_ble_eq_true rfl, Nat.le_of_ble_eq_true rfl⟩ ?_
  refine wp_astore_n (lv' := [(3, .ref (Γ 6 l)), (0, .ref (Γ 0 0)), (1, .int (nI l)), (2, .int (bI v))]) d_Net_serve_5 rfl (by decide) rfl ?_
  refine wp_aload_n d_Net_serve_6 rfl 0 rfl ?_
  refine wn_get_Lin d_Net_serve_7 (((hR.li l hl).2 _ _ _ hv).2.1) 4 (by decide) wF_Net_135 rfl ?_
  refine wp_toI (z := (bI v)) (((hR.li l hl).2 _ _ _ hv).2.2.2.2.2.2.2) ?_
  refine wp_iload_n d_Net_serve_10 rfl 3 rfl ?_
  refine wp_icmp_ne (tgt := 16) d_Net_serve_11 (by decide) (fun c11 => ?_) (fun c11 => ?_)
  · exact absurd rfl c11
  · refine wp_iconst (v := nI 0) d_Net_serve_14 (by decide) ?_
    exact wp_zret (ty := .boolean) d_Net_serve_15 rfl rfl ⟨resI (bI_zero (rfl)), rfl⟩
set_option maxRecDepth 20000 in
theorem c_Net_serve1 {G : Gt} {K N : Nat → Nat} {I : Nat → Nat → Int32} {R : Nat → Nat → Option Nat} {L : Nat → Nat → Int64} {E : Nat → Nat → Int32} {El : Nat → Nat → Int64} {Er : Nat → Nat → Option Nat} {Γ : Gm} {ρ : Nat → Nat} {s : Sa} (hR : RepN Γ ρ K N I R L E El Er s) {l a b : Nat} (hl : l < 8) (hv : sLn s l = some (a, b, true)) : CallE G m_Net_serve 2 26 [.ref (Γ 0 0), .int (nI l), .int (bI false)] (hN K N I R L E El Er) 0 0 (some (.int (nI 1))) (NetK Γ (srv1 s l false a b) K I R) := by
  refine CallS.of (Nat.le_of_ble_eq_true rfl) ?_
  refine wp_aload_n d_Net_serve_0 rfl 0 rfl ?_
  refine wp_iload_n d_Net_serve_1 rfl 1 rfl ?_
  refine wp_callV (r := 0) d_Net_serve_2 (link_V (as := [.int (nI l)]) (rest := []) (r := (R_Net, T_Net, 7)) d_Net_serve_2 cal_Net_lineAt wM_Net_127 rfl (hN_o (hR.nt.1) (by decide)) rfl) cal_Net_lineAt (c_Net_lineAt hR hl hv) (Nat.le_of_ble_eq_true rfl) ⟨Nat.le_of_ble_eq_true rfl, Nat.le_of_ble_eq_true rfl⟩ ?_
  refine wp_astore_n (lv' := [(3, .ref (Γ 6 l)), (0, .ref (Γ 0 0)), (1, .int (nI l)), (2, .int (bI false))]) d_Net_serve_5 rfl (by decide) rfl ?_
  refine wp_aload_n d_Net_serve_6 rfl 0 rfl ?_
  refine wn_get_Lin d_Net_serve_7 (((hR.li l hl).2 _ _ _ hv).2.1) 4 (by decide) wF_Net_135 rfl ?_
  refine wp_toI (z := (bI true)) (((hR.li l hl).2 _ _ _ hv).2.2.2.2.2.2.2) ?_
  refine wp_iload_n d_Net_serve_10 rfl 3 rfl ?_
  refine wp_icmp_ne (tgt := 16) d_Net_serve_11 (by decide) (fun c11 => ?_) (fun c11 => ?_)
  · refine wp_aload_n d_Net_serve_16 rfl 0 rfl ?_
    refine wp_iload_n d_Net_serve_17 rfl 3 rfl ?_
    refine wn_put_Lin (ty := t_Lin 4) (I' := u2 I 42 (Γ 6 l) (bI false)) (R' := R) (L' := L) d_Net_serve_18 (((hR.li l hl).2 _ _ _ hv).2.1) 4 (by decide) wF_Net_135 rfl (t_Lin_ok 4 (by decide)) (narB' _) (fitB _) sF_42 (oI _ _ _ 42 _) ?_
    refine wp_iload_n d_Net_serve_21 rfl 3 rfl ?_
    refine wp_if_eqB (tgt := 44) d_Net_serve_22 (by decide) (fun _ => ?_) (fun c => absurd c (by decide))
    have hR0 := hR.srv (v := false) hl hv
    refine wp_aload_n d_Net_serve_44 rfl 0 rfl ?_
    refine wp_callEU (k' := 0) (n' := 0) (r := 0) d_Net_serve_45 (link_V (as := []) (rest := []) (r := (R_Lin, T_Lin, 5)) d_Net_serve_45 cal_Lin_loseFrames wM_Net_196 rfl (hN_o (((hR.li l hl).2 _ _ _ hv).2.1) (by decide)) rfl) cal_Lin_loseFrames (c_Lin_loseFrames hR0 hl (show sLn (wLn s (va_up (sLn s) l (some (a, b, false)))) l = some (a, b, false) by show va_up (sLn s) l (some (a, b, false)) l = _; simp [va_up])) (Nat.le_of_ble_eq_true rfl) ⟨Nat.le_of_ble_eq_true rfl, Nat.le_of_ble_eq_true rfl⟩ (fun h' q45 => ?_)
    refine wp_iconst (v := nI 1) d_Net_serve_48 (by decide) ?_
    exact wp_zret (ty := .boolean) d_Net_serve_49 rfl rfl ⟨rfl, NetK.tr (Kp_u (g := 42) (by decide)) (by have h9 := q45; rw [ch1_ne (show 2 * l + 1 ≠ 2 * l by omega)] at h9; exact h9)⟩
  · exact absurd c11 (by decide)
set_option maxRecDepth 20000 in
theorem c_Net_serve2 {G : Gt} {K N : Nat → Nat} {I : Nat → Nat → Int32} {R : Nat → Nat → Option Nat} {L : Nat → Nat → Int64} {E : Nat → Nat → Int32} {El : Nat → Nat → Int64} {Er : Nat → Nat → Option Nat} {Γ : Gm} {ρ : Nat → Nat} {s : Sa} (hR : RepN Γ ρ K N I R L E El Er s) {l a b : Nat} (hl : l < 8) (hv : sLn s l = some (a, b, false)) {n0 : Nat} (hV0 : Inv n0 (wLn s (va_up (sLn s) l (some (a, b, true))))) (hV2 : Inv n0 (releaseS (wLn s (va_up (sLn s) l (some (a, b, true)))) a)) (hva : sLn (wLn s (va_up (sLn s) l (some (a, b, true)))) l = some (a, b, true)) (hsl2 : sLn (releaseS (wLn s (va_up (sLn s) l (some (a, b, true)))) a) = sLn (wLn s (va_up (sLn s) l (some (a, b, true))))) (ha6 : a < 6) (hb6 : b < 6) : CallE G m_Net_serve 5 86 [.ref (Γ 0 0), .int (nI l), .int (bI true)] (hN K N I R L E El Er) (0 + (0 + phiCp (hlF (releaseS (wLn s (va_up (sLn s) l (some (a, b, true)))) a) b)) + (0 + phiCp (hlF (wLn s (va_up (sLn s) l (some (a, b, true)))) a))) (0 + (0 + 4 * phiCp (hlF (releaseS (wLn s (va_up (sLn s) l (some (a, b, true)))) a) b)) + (0 + 4 * phiCp (hlF (wLn s (va_up (sLn s) l (some (a, b, true)))) a))) (some (.int (nI 1))) (NetK Γ (releaseS (releaseS (wLn s (va_up (sLn s) l (some (a, b, true)))) a) b) K I R) := by
  refine CallS.of (Nat.le_of_ble_eq_true rfl) ?_
  refine wp_aload_n d_Net_serve_0 rfl 0 rfl ?_
  refine wp_iload_n d_Net_serve_1 rfl 1 rfl ?_
  refine wp_callV (r := 0) d_Net_serve_2 (link_V (as := [.int (nI l)]) (rest := []) (r := (R_Net, T_Net, 7)) d_Net_serve_2 cal_Net_lineAt wM_Net_127 rfl (hN_o (hR.nt.1) (by decide)) rfl) cal_Net_lineAt (c_Net_lineAt hR hl hv) (Nat.le_of_ble_eq_true rfl) ⟨Nat.le_of_ble_eq_true rfl, Nat.le_of_ble_eq_true rfl⟩ ?_
  refine wp_astore_n (lv' := [(3, .ref (Γ 6 l)), (0, .ref (Γ 0 0)), (1, .int (nI l)), (2, .int (bI true))]) d_Net_serve_5 rfl (by decide) rfl ?_
  refine wp_aload_n d_Net_serve_6 rfl 0 rfl ?_
  refine wn_get_Lin d_Net_serve_7 (((hR.li l hl).2 _ _ _ hv).2.1) 4 (by decide) wF_Net_135 rfl ?_
  refine wp_toI (z := (bI false)) (((hR.li l hl).2 _ _ _ hv).2.2.2.2.2.2.2) ?_
  refine wp_iload_n d_Net_serve_10 rfl 3 rfl ?_
  refine wp_icmp_ne (tgt := 16) d_Net_serve_11 (by decide) (fun c11 => ?_) (fun c11 => ?_)
  · refine wp_aload_n d_Net_serve_16 rfl 0 rfl ?_
    refine wp_iload_n d_Net_serve_17 rfl 3 rfl ?_
    refine wn_put_Lin (ty := t_Lin 4) (I' := u2 I 42 (Γ 6 l) (bI true)) (R' := R) (L' := L) d_Net_serve_18 (((hR.li l hl).2 _ _ _ hv).2.1) 4 (by decide) wF_Net_135 rfl (t_Lin_ok 4 (by decide)) (narB' _) (fitB _) sF_42 (oI _ _ _ 42 _) ?_
    refine wp_iload_n d_Net_serve_21 rfl 3 rfl ?_
    refine wp_if_eqB (tgt := 44) d_Net_serve_22 (by decide) (fun c => absurd c (by decide)) (fun _ => ?_)
    have hR0 := hR.srv (v := true) hl hv
    refine wp_aload_n d_Net_serve_25 rfl 1 rfl ?_
    refine wp_aload_n d_Net_serve_26 rfl 0 rfl ?_
    refine wn_get_Lin d_Net_serve_27 (((hR.li l hl).2 _ _ _ hv).2.1) 0 (by decide) wF_Net_187 rfl ?_
    refine wp_toI (z := (nI a)) (by rw [u2_ne _ _ (by decide)]; exact ((hR.li l hl).2 _ _ _ hv).2.2.2.1) ?_
    refine wp_callEU (k' := (0 + phiCp (hlF (wLn s (va_up (sLn s) l (some (a, b, true)))) a))) (n' := (0 + 4 * phiCp (hlF (wLn s (va_up (sLn s) l (some (a, b, true)))) a))) (r := 0) d_Net_serve_30 (link_V (as := [.int (nI a)]) (rest := []) (r := (R_Net, T_Net, 7)) d_Net_serve_30 cal_Net_takeHeld wM_Net_190 rfl (hN_o (hR.nt.1) (by decide)) rfl) cal_Net_takeHeld (c_Net_takeHeld hR0 hV0 ha6) (Nat.le_of_ble_eq_true rfl) ⟨Nat.le_of_ble_eq_true rfl, Nat.le_of_ble_eq_true rfl⟩ (fun h' q30 => ?_)
    obtain ⟨ρ2, K2, N2, I2, R2, L2, E2, El2, Er2, rfl, hR2, kp2⟩ := q30
    have hv2 : sLn (releaseS (wLn s (va_up (sLn s) l (some (a, b, true)))) a) l = some (a, b, true) := by rw [hsl2]; exact hva
    refine wp_aload_n d_Net_serve_33 rfl 1 rfl ?_
    refine wp_aload_n d_Net_serve_34 rfl 0 rfl ?_
    refine wn_get_Lin d_Net_serve_35 (((hR2.li l hl).2 _ _ _ hv2).2.1) 1 (by decide) wF_Net_193 rfl ?_
    refine wp_toI (z := (nI b)) (((hR2.li l hl).2 _ _ _ hv2).2.2.2.2.1) ?_
    refine wp_callEU (k' := (0 + phiCp (hlF (releaseS (wLn s (va_up (sLn s) l (some (a, b, true)))) a) b))) (n' := (0 + 4 * phiCp (hlF (releaseS (wLn s (va_up (sLn s) l (some (a, b, true)))) a) b))) (r := 0) d_Net_serve_38 (link_V (as := [.int (nI b)]) (rest := []) (r := (R_Net, T_Net, 7)) d_Net_serve_38 cal_Net_takeHeld wM_Net_190 rfl (hN_o (hR2.nt.1) (by decide)) rfl) cal_Net_takeHeld (c_Net_takeHeld hR2 hV2 hb6) (Nat.le_of_ble_eq_true rfl) ⟨Nat.le_of_ble_eq_true rfl, Nat.le_of_ble_eq_true rfl⟩ (fun h' q38 => ?_)
    refine wp_goto (tgt := 48) d_Net_serve_41 (by decide) ?_
    refine wp_iconst (v := nI 1) d_Net_serve_48 (by decide) ?_
    exact wp_zret (ty := .boolean) d_Net_serve_49 rfl rfl ⟨rfl, NetK.tr ((Kp_u (by decide)).tr kp2) q38⟩
  · exact absurd c11 (by decide)
end Cls27
