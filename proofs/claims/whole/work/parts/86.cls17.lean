section Cls17
theorem textAt_put {s : Sa} {m : Nat × List (List Nat) × Nat × Nat} (h : m.2.2.2 ≤ (sLog s).length) (x : Nat × Int32) (p : Nat) : textAt (wLog s (x :: sLog s)) m p = textAt s m p := by
  unfold textAt
  show txtR ((x :: sLog s).drop ((x :: sLog s).length - m.2.2.2)) p = _
  rw [List.length_cons, show (sLog s).length + 1 - m.2.2.2 = ((sLog s).length - m.2.2.2) + 1 by omega, List.drop_succ_cons]
theorem RepN.put {Γ : Gm} {ρ : Nat → Nat} {K N : Nat → Nat} {I : Nat → Nat → Int32} {R : Nat → Nat → Option Nat} {L : Nat → Nat → Int64} {E : Nat → Nat → Int32} {El : Nat → Nat → Int64} {Er : Nat → Nat → Option Nat} {s : Sa} (h : RepN Γ ρ K N I R L E El Er s) {i : Nat} {v : Int32} (hlog : ∀ m ∈ sMs s, m.2.2.2 ≤ (sLog s).length) : RepN Γ ρ K N I R L (wrE E (Γ 0 2) i v 4) El Er (wLog s ((i, v) :: sLog s)) := by
  have n := h.nt
  have kb := h.dr.2.1
  have pb := h.dr.2.2.2.2.2.2.2.1
  have F : Fr0 ρ ρ K N K N I I R R L L E (wrE E (Γ 0 2) i v 4) El El Er Er [] [] [Γ 0 2] [] [] :=
    ⟨fun _ _ => ⟨rfl, rfl, rfl⟩, fun _ _ _ _ => rfl, fun _ _ _ _ => rfl, fun _ _ _ => rfl, fun q hq _ => by funext p; unfold wrE; rw [if_neg (fun z => hq (by rw [z.1]; exact List.mem_singleton.mpr rfl))], fun _ _ _ => rfl, fun _ _ _ => rfl⟩
  have hD : DF K I R L (wrE E (Γ 0 2) i v 4) El Er := by
    intro q hq
    obtain ⟨a, b, c, d, e, f⟩ := h.df q hq
    refine ⟨a, b, c, fun p => ?_, e, f⟩
    unfold wrE
    rw [if_neg (fun z => by rw [z.1] at hq; omega)]
    exact d p
  refine ⟨hD, n, ?_, h.sw, h.en, h.dk, h.hl, h.li, h.ci, h.qu, h.ri, ?_⟩
  · obtain ⟨a1, a2, a3, b1, b2, c1, c2, d1, d2, e⟩ := h.dr
    refine ⟨a1, a2, a3, b1, b2, c1, c2, d1, d2, fun p hp => ?_⟩
    show wrE E (Γ 0 2) i v 4 (Γ 0 2) p = b8 (txtR ((i, v) :: sLog s) p)
    rw [txtR]
    unfold wrE
    by_cases hx : i ≤ p ∧ p < i + 4
    · rw [if_pos hx, if_pos ⟨rfl, hx.1, hx.2, hp⟩]
    · rw [if_neg hx, if_neg (fun z => hx ⟨z.2.1, z.2.2.1⟩)]
      exact e p hp
  · intro j m hm
    obtain ⟨a, b⟩ := h.mg j m hm
    have h15 : Γ 15 (j + 1) ∉ [Γ 0 2] := fun z => by
      have := b.2.2.2.2.2.2.2.2.2.1
      rw [List.mem_singleton.mp z, pb] at this
      omega
    obtain ⟨a1, a2, b1, b2, c1, c2, c3, d1, d2, d3, e1, e2, e3, f1, f2⟩ := b.fr F (by decide) (by decide) h15 List.not_mem_nil
    refine ⟨a, a1, a2, b1, b2, c1, c2, c3, d1, d2, d3, e1, e2, e3, fun p hp => ?_, f2⟩
    rw [textAt_put (hlog m (List.mem_of_getElem? hm))]
    exact f1 p hp
theorem RepN.minute {Γ : Gm} {ρ : Nat → Nat} {K N : Nat → Nat} {I : Nat → Nat → Int32} {R : Nat → Nat → Option Nat} {L : Nat → Nat → Int64} {E : Nat → Nat → Int32} {El : Nat → Nat → Int64} {Er : Nat → Nat → Option Nat} {s : Sa} (h : RepN Γ ρ K N I R L E El Er s) (m : Nat) : RepN Γ ρ K N (u2 I 6 (Γ 0 0) (nI m)) R L E El Er (wMin s m) := by
  obtain ⟨a, b1, b2, b3, b4, b5, c1, c2, d1, d2, e1, e2, f1, f2, f3, g1, g2⟩ := h.nt
  have F : Fr0 ρ ρ K N K N I (u2 I 6 (Γ 0 0) (nI m)) R R L L E E El El Er Er [6] [] [] [] [] :=
    ⟨fun _ _ => ⟨rfl, rfl, rfl⟩, fun g q hg _ => by rw [u2_ne _ _ (fun e => hg (by rw [e]; exact List.mem_singleton.mpr rfl))], fun _ _ _ _ => rfl, fun _ _ _ => rfl, fun _ _ _ => rfl, fun _ _ _ => rfl, fun _ _ _ => rfl⟩
  refine ⟨DF.pI h.df (by omega), ⟨a, b1, b2, b3, b4, b5, by rw [u2_ne _ _ (by decide)]; exact c1, by rw [u2_at, if_pos rfl], d1, d2, e1, e2, f1, f2, f3, g1, g2⟩, h.dr, h.sw.fr F (by omega) (fun g h1 h2 hm => by rw [List.mem_singleton.mp hm] at h1; omega) (fun _ _ _ => List.not_mem_nil) List.not_mem_nil, h.en.fr F (fun x hx => by have := (h.sw x hx).2.2.2.2.2.2.1; omega) (fun g h1 h2 hm => by rw [List.mem_singleton.mp hm] at h1; omega) (fun _ _ => List.not_mem_nil), h.dk, h.hl.fr F (by decide) (by decide), h.li.fr F (by omega) (by decide) (by decide) List.not_mem_nil, h.ci.fr F (fun g h1 h2 hm => by rw [List.mem_singleton.mp hm] at h1; omega) (fun _ _ _ => List.not_mem_nil), h.qu.fr F (fun c hc hs => by have := (h.ci c hc hs).2.2.2.2.2.1; omega) (by decide) (by decide) (fun _ _ _ => List.not_mem_nil), h.ri.fr F (by decide) (by decide) (fun _ _ _ => ⟨List.not_mem_nil, List.not_mem_nil⟩), h.mg.fr F (by omega) (by decide) (by decide) (fun _ _ => ⟨List.not_mem_nil, List.not_mem_nil⟩) List.not_mem_nil⟩
set_option maxRecDepth 20000 in
theorem c_Net_putX {G : Gt} {K N : Nat → Nat} {I : Nat → Nat → Int32} {R : Nat → Nat → Option Nat} {L : Nat → Nat → Int64} {E : Nat → Nat → Int32} {El : Nat → Nat → Int64} {Er : Nat → Nat → Option Nat} {o : Nat} {x v : Int32} (hx : inZ x (nI 0) (nI 1599) = false) : CallT G m_Net_put 6 82 [.ref o, .int x, .int v] (hN K N I R L E El Er) 1 6 0 (fun h' => h' = (hN K N I R L E El Er)) := by
  refine CallS.of (Nat.le_of_ble_eq_true rfl) ?_
  refine wp_iload_n d_Net_put_0 rfl 1 rfl ?_
  refine wp_if_lt (tgt := 11) d_Net_put_1 (by decide) (fun c1 => ?_) (fun c1 => ?_)
  · exact wp_throwS (x := 0) d_Net_put_11 d_Net_put_14 d_Net_put_15 d_Net_put_17 d_Net_put_20 th_Net_47 wE_Net_43 wS_Net_96 rfl ⟨Nat.le_of_ble_eq_true rfl, Nat.le_of_ble_eq_true rfl⟩ ⟨rfl, rfl⟩
  · refine wp_iload_n d_Net_put_4 rfl 1 rfl ?_
    refine wp_sipush (v := nI 1600) d_Net_put_5 (by decide) ?_
    refine wp_icmp_lt (tgt := 21) d_Net_put_8 (by decide) (fun c8 => ?_) (fun c8 => ?_)
    · exact absurd c8 (lt_succ rfl (by decide) ((inZ_x (by decide) hx).resolve_left c1))
    · exact wp_throwS (x := 0) d_Net_put_11 d_Net_put_14 d_Net_put_15 d_Net_put_17 d_Net_put_20 th_Net_47 wE_Net_43 wS_Net_96 rfl ⟨Nat.le_of_ble_eq_true rfl, Nat.le_of_ble_eq_true rfl⟩ ⟨rfl, rfl⟩
set_option maxRecDepth 20000 in
theorem c_Net_put1 {G : Gt} {K N : Nat → Nat} {I : Nat → Nat → Int32} {R : Nat → Nat → Option Nat} {L : Nat → Nat → Int64} {E : Nat → Nat → Int32} {El : Nat → Nat → Int64} {Er : Nat → Nat → Option Nat} {Γ : Gm} {ρ : Nat → Nat} {s : Sa} (hR : RepN Γ ρ K N I R L E El Er s) {i : Nat} {v : Int32} (hi : i < 1600) : CallR G m_Net_put 1 16 [.ref (Γ 0 0), .int (nI i), .int v] (hN K N I R L E El Er) 0 0 none (hN K N I R L (wrE E (Γ 0 2) i v 4) El Er) := by
  refine CallS.of (Nat.le_of_ble_eq_true rfl) ?_
  refine wp_iload_n d_Net_put_0 rfl 1 rfl ?_
  refine wp_if_ltN (tgt := 11) d_Net_put_1 (by decide) (by omega) ?_
  refine wp_iload_n d_Net_put_4 rfl 1 rfl ?_
  refine wp_sipush (v := nI 1600) d_Net_put_5 (by decide) ?_
  refine wp_ltN (tgt := 21) d_Net_put_8 (by decide) (by omega) (by omega) (fun c8 => ?_) (fun c8 => ?_)
  · refine wp_aload_n d_Net_put_21 rfl 0 rfl ?_
    refine wn_get_Net d_Net_put_22 (hR.nt.1) 0 (by decide) wF_Net_10 rfl ?_
    refine wp_toVR (o := some (Γ 0 1)) (z := .ref (Γ 0 1)) (hR.nt.2.1) rfl ?_
    refine wp_iload_n d_Net_put_25 rfl 1 rfl ?_
    refine wp_iload_n d_Net_put_26 rfl 2 rfl ?_
    refine wp_callU (r := 0) d_Net_put_27 (link_V (as := [.int (nI i), .int v]) (rest := []) (r := (R_Drf, T_Drf, 7)) d_Net_put_27 cal_Drf_write wM_Net_98 rfl (hN_o (hR.dr.1) (by decide)) rfl) cal_Drf_write (c_Drf_write hR.dr.1 hR.dr.2.1 hR.dr.2.2.2.1 hR.dr.2.2.2.2.2.1 hi) (Nat.le_of_ble_eq_true rfl) ⟨Nat.le_of_ble_eq_true rfl, Nat.le_of_ble_eq_true rfl⟩ ?_
    exact wp_vret d_Net_put_30 rfl ⟨rfl, rfl⟩
  · exact absurd c8 (by omega)
theorem n_Net_put {G : Gt} {K N : Nat → Nat} {I : Nat → Nat → Int32} {R : Nat → Nat → Option Nat} {L : Nat → Nat → Int64} {E : Nat → Nat → Int32} {El : Nat → Nat → Int64} {Er : Nat → Nat → Option Nat} {Γ : Gm} {ρ : Nat → Nat} {s : Sa} (hR : RepN Γ ρ K N I R L E El Er s) {n0 : Nat} (hV : Inv n0 s) (i v : Int32) : CallN G m_Net_put 6 82 [.ref (Γ 0 0), .int i, .int v] (hN K N I R L E El Er) 1 6 (stPut s i v) true (Γ 0 0) := by
  unfold stPut
  cases hx : inZ i (nI 0) (nI 1599) with
  | false => exact CallN.ofT (c_Net_putX hx) (by decide) (by decide) (by decide) (by decide) rfl hR.okT
  | true =>
    obtain ⟨j, hj, rfl⟩ := inZ_of (by decide) hx
    rw [if_pos rfl, nN_nI (by omega)]
    exact CallN.ofR (c_Net_put1 hR (show j < 1600 by omega)) (by decide) (by decide) (by decide) (by decide) rfl (hR.put (fun m hm => (hV.ms hm).2.2.2.2.2)).ok
set_option maxRecDepth 20000 in
theorem c_Net_timeX {G : Gt} {K N : Nat → Nat} {I : Nat → Nat → Int32} {R : Nat → Nat → Option Nat} {L : Nat → Nat → Int64} {E : Nat → Nat → Int32} {El : Nat → Nat → Int64} {Er : Nat → Nat → Option Nat} {o : Nat} {x : Int32} (hx : inZ x (nI 0) (nI 1000) = false) : CallT G m_Net_time 6 82 [.ref o, .int x] (hN K N I R L E El Er) 1 6 0 (fun h' => h' = (hN K N I R L E El Er)) := by
  refine CallS.of (Nat.le_of_ble_eq_true rfl) ?_
  refine wp_iload_n d_Net_time_0 rfl 1 rfl ?_
  refine wp_if_lt (tgt := 11) d_Net_time_1 (by decide) (fun c1 => ?_) (fun c1 => ?_)
  · exact wp_throwS (x := 0) d_Net_time_11 d_Net_time_14 d_Net_time_15 d_Net_time_17 d_Net_time_20 th_Net_47 wE_Net_43 wS_Net_199 rfl ⟨Nat.le_of_ble_eq_true rfl, Nat.le_of_ble_eq_true rfl⟩ ⟨rfl, rfl⟩
  · refine wp_iload_n d_Net_time_4 rfl 1 rfl ?_
    refine wp_sipush (v := nI 1000) d_Net_time_5 (by decide) ?_
    refine wp_icmp_le (tgt := 21) d_Net_time_8 (by decide) (fun c8 => ?_) (fun c8 => ?_)
    · exact absurd ((show inZ x (nI 0) (nI 1000) = true from inZ_t c1 (Int32.not_lt.mpr c8)).symm.trans hx) (by decide)
    · exact wp_throwS (x := 0) d_Net_time_11 d_Net_time_14 d_Net_time_15 d_Net_time_17 d_Net_time_20 th_Net_47 wE_Net_43 wS_Net_199 rfl ⟨Nat.le_of_ble_eq_true rfl, Nat.le_of_ble_eq_true rfl⟩ ⟨rfl, rfl⟩
theorem time_1 {s1 : Sa} {c : Nat} (hsv : serves s1 (c / 2) = true) : due1 (wCh s1 (timeCh s1 c)) c (sMin s1) = dueC s1 c := by
  unfold due1 dueC
  rw [hsv, show sCh (wCh s1 (timeCh s1 c)) c = sCh s1 c from timeCh_self s1 c]
  rfl
theorem time_2 {s1 : Sa} {c : Nat} (hsv : serves s1 (c / 2) = true) : (if due1 (wCh s1 (timeCh s1 c)) c (sMin s1) then ch1 (wCh s1 (timeCh s1 c)) c (layKeptC (sCh (wCh s1 (timeCh s1 c)) c) 0 (sMin s1)) else wCh s1 (timeCh s1 c)) = wCh s1 (timeCh s1 (c + 1)) := by
  rw [time_1 hsv, show sCh (wCh s1 (timeCh s1 c)) c = sCh s1 c from timeCh_self s1 c]
  cases hd : dueC s1 c with
  | true => rw [if_pos rfl, timeCh_yes hd]
  | false => rw [if_neg (by decide), timeCh_no hd]
theorem many_2 {s1 : Sa} {c : Nat} (hsv : serves s1 (c / 2) = true) : timeMany s1 (c + 1) = timeMany s1 c + (if due1 (wCh s1 (timeCh s1 c)) c (sMin s1) then 1 else 0) := by
  rw [many_s, time_1 hsv]
theorem time_0 {s1 : Sa} {l : Nat} (h : serves s1 l = false) : timeCh s1 (2 * (l + 1)) = timeCh s1 (2 * l) ∧ timeMany s1 (2 * (l + 1)) = timeMany s1 (2 * l) := by
  have h1 : dueC s1 (2 * l) = false := due_no (Or.inl (by rw [show 2 * l / 2 = l by omega]; exact h))
  have h2 : dueC s1 (2 * l + 1) = false := due_no (Or.inl (by rw [show (2 * l + 1) / 2 = l by omega]; exact h))
  constructor
  · rw [show 2 * (l + 1) = 2 * l + 1 + 1 by omega, timeCh_no h2, timeCh_no h1]
  · rw [show 2 * (l + 1) = 2 * l + 1 + 1 by omega, many_s, many_s, h1, h2]
    rfl
theorem many_le (s1 : Sa) (c : Nat) : timeMany s1 c ≤ c := by
  unfold timeMany
  exact Nat.le_trans (List.length_filter_le _ _) (by simp)
set_option maxRecDepth 20000 in
theorem c_Net_time1 {G : Gt} {K N : Nat → Nat} {I : Nat → Nat → Int32} {R : Nat → Nat → Option Nat} {L : Nat → Nat → Int64} {E : Nat → Nat → Int32} {El : Nat → Nat → Int64} {Er : Nat → Nat → Option Nat} {Γ : Gm} {ρ : Nat → Nat} {s : Sa} (hR : RepN Γ ρ K N I R L E El Er s) {t : Nat} (ht : t ≤ 1000) (hmin : sMin s + t < 2 ^ 30) (hput0 : ∀ c, cPut (sCh s c) ≤ sMin s) : CallE G m_Net_time 4 58 [.ref (Γ 0 0), .int (nI t)] (hN K N I R L E El Er) 0 0 (some (.int (nI (timeMany (wMin s (sMin s + t)) 16)))) (NetK Γ (wCh (wMin s (sMin s + t)) (timeCh (wMin s (sMin s + t)) 16)) K I R) := by
  refine CallS.of (Nat.le_of_ble_eq_true rfl) ?_
  obtain ⟨s1, hs1⟩ : ∃ s1, s1 = (wMin s (sMin s + t)) := ⟨_, rfl⟩
  have hput : ∀ c, cPut (sCh s1 c) ≤ sMin s1 := fun c => by rw [hs1]; have := hput0 c; show cPut (sCh s c) ≤ sMin s + t; omega
  have hm30 : sMin s1 < 2 ^ 30 := by rw [hs1]; exact hmin
  rw [← hs1]
  have L2 : ∀ (f l : Nat) (s' : Sa) (ρ' K' N' : Nat → Nat) (I' : Nat → Nat → Int32) (R' : Nat → Nat → Option Nat) (L' : Nat → Nat → Int64) (E' : Nat → Nat → Int32) (El' : Nat → Nat → Int64) (Er' : Nat → Nat → Option Nat), 8 - l < f → l ≤ 8 → RepN Γ ρ' K' N' I' R' L' E' El' Er' s' → Kp K I R K' I' R' → s' = wCh s1 (timeCh s1 (2 * l)) → WP G m_Net_time (4, 58, 0, 0, (hN K N I R L E El Er), fun r9 h9 => r9 = .inl (some (.int (nI (timeMany s1 16)))) ∧ (NetK Γ (wCh s1 (timeCh s1 16)) K I R) h9) 45 [(5, .int (nI l)), (4, .int (nI 8)), (3, .ref (Γ 0 5)), (2, .int (nI (timeMany s1 (2 * l)))), (0, .ref (Γ 0 0)), (1, .int (nI t))] [] (hN K' N' I' R' L' E' El' Er') 0 0 := by
    intro f
    induction f with
    | zero =>
      intro l s' ρ' K' N' I' R' L' E' El' Er' h1 h2
      omega
    | succ f ih =>
      intro l s' ρ' K' N' I' R' L' E' El' Er' hf hl hR' hkp he
      have hml := many_le s1 (2 * l)
      refine wp_iload d_Net_time_45 0 rfl ?_
      refine wp_iload d_Net_time_47 1 rfl ?_
      refine wp_geN (tgt := 105) d_Net_time_49 (by decide) (by omega) (by omega) (fun c49 => ?_) (fun c49 => ?_)
      · refine wp_iload_n d_Net_time_105 rfl 3 rfl ?_
        exact wp_iret d_Net_time_106 rfl ⟨by rw [show 2 * l = 16 by omega], ρ', K', N', I', R', L', E', El', Er', rfl, by rw [he, show 2 * l = 16 by omega] at hR'; exact hR', hkp⟩
      · cases hv : sLn s l with
        | none =>
          have hsv : serves s1 l = false := by subst hs1; unfold serves; show (match sLn s l with | some (_, _, true) => true | _ => false) = _; rw [hv]
          refine wp_aload_n d_Net_time_52 rfl 2 rfl ?_
          refine wp_iload d_Net_time_53 0 rfl ?_
          refine wn_ald (x := none) d_Net_time_55 (hR'.nt.2.2.2.2.2.2.2.2.2.2.1) rfl (by decide) (by rw [hR'.nt.2.2.2.2.2.2.2.2.2.2.2.1]; omega) (by rw [hR'.nt.2.2.2.2.2.2.2.2.2.2.2.1]; omega) ((hR'.li l (by omega)).1 (by rw [he, hs1]; exact hv)) ?_
          refine wp_astoreN (lv' := [(6, .null), (5, .int (nI l)), (4, .int (nI 8)), (3, .ref (Γ 0 5)), (2, .int (nI (timeMany s1 (2 * l)))), (0, .ref (Γ 0 0)), (1, .int (nI t))]) d_Net_time_56 (by decide) rfl ?_
          refine wp_aloadN d_Net_time_58 0 rfl ?_
          refine wp_ifnullN (tgt := 99) d_Net_time_60 (by decide) ?_
          refine wp_iinc (lv' := [(5, .int (nI (l + 1))), (6, .null), (4, .int (nI 8)), (3, .ref (Γ 0 5)), (2, .int (nI (timeMany s1 (2 * l)))), (0, .ref (Γ 0 0)), (1, .int (nI t))]) d_Net_time_99 1 rfl (nI_1 _) (by decide) rfl ?_
          refine wp_goto (tgt := 45) d_Net_time_102 (by decide) ?_
          refine wp_lv [0, 2, 3, 4, 5, 6] rfl ?_
          (rw [← (time_0 hsv).2]; exact ih (l + 1) _ ρ' K' N' I' R' L' E' El' Er' (by omega) (by omega) hR' hkp (by rw [he, (time_0 hsv).1]))
        | some q =>
          obtain ⟨a, b, v⟩ := q
          have hv' : sLn s' l = some (a, b, v) := by rw [he, hs1]; exact hv
          cases v with
          | false =>
            have hsv : serves s1 l = false := by subst hs1; unfold serves; show (match sLn s l with | some (_, _, true) => true | _ => false) = _; rw [hv]
            refine wp_aload_n d_Net_time_52 rfl 2 rfl ?_
            refine wp_iload d_Net_time_53 0 rfl ?_
            refine wn_ald (x := some (Γ 6 l)) d_Net_time_55 (hR'.nt.2.2.2.2.2.2.2.2.2.2.1) rfl (by decide) (by rw [hR'.nt.2.2.2.2.2.2.2.2.2.2.2.1]; omega) (by rw [hR'.nt.2.2.2.2.2.2.2.2.2.2.2.1]; omega) (((hR'.li l (by omega)).2 _ _ _ hv').1) ?_
            refine wp_astore (lv' := [(6, .ref (Γ 6 l)), (5, .int (nI l)), (4, .int (nI 8)), (3, .ref (Γ 0 5)), (2, .int (nI (timeMany s1 (2 * l)))), (0, .ref (Γ 0 0)), (1, .int (nI t))]) d_Net_time_56 (by decide) rfl ?_
            refine wp_aload d_Net_time_58 0 rfl ?_
            refine wp_ifnull d_Net_time_60 ?_
            refine wp_aload d_Net_time_63 0 rfl ?_
            refine wn_get_Lin d_Net_time_65 (((hR'.li l (by omega)).2 _ _ _ hv').2.1) 4 (by decide) wF_Net_135 rfl ?_
            refine wp_toI (z := (bI false)) (((hR'.li l (by omega)).2 _ _ _ hv').2.2.2.2.2.2.2) ?_
            refine wp_if_eqB (tgt := 99) d_Net_time_68 (by decide) (fun _ => ?_) (fun c => absurd c (by decide))
            refine wp_iinc (lv' := [(5, .int (nI (l + 1))), (6, .ref (Γ 6 l)), (4, .int (nI 8)), (3, .ref (Γ 0 5)), (2, .int (nI (timeMany s1 (2 * l)))), (0, .ref (Γ 0 0)), (1, .int (nI t))]) d_Net_time_99 1 rfl (nI_1 _) (by decide) rfl ?_
            refine wp_goto (tgt := 45) d_Net_time_102 (by decide) ?_
            refine wp_lv [0, 2, 3, 4, 5, 6] rfl ?_
            (rw [← (time_0 hsv).2]; exact ih (l + 1) _ ρ' K' N' I' R' L' E' El' Er' (by omega) (by omega) hR' hkp (by rw [he, (time_0 hsv).1]))
          | true =>
            have hsv : serves s1 l = true := by subst hs1; unfold serves; show (match sLn s l with | some (_, _, true) => true | _ => false) = _; rw [hv]
            have hsvA : serves s1 ((2 * l) / 2) = true := by rw [show 2 * l / 2 = l by omega]; exact hsv
            have hsvB : serves s1 ((2 * l + 1) / 2) = true := by rw [show (2 * l + 1) / 2 = l by omega]; exact hsv
            refine wp_aload_n d_Net_time_52 rfl 2 rfl ?_
            refine wp_iload d_Net_time_53 0 rfl ?_
            refine wn_ald (x := some (Γ 6 l)) d_Net_time_55 (hR'.nt.2.2.2.2.2.2.2.2.2.2.1) rfl (by decide) (by rw [hR'.nt.2.2.2.2.2.2.2.2.2.2.2.1]; omega) (by rw [hR'.nt.2.2.2.2.2.2.2.2.2.2.2.1]; omega) (((hR'.li l (by omega)).2 _ _ _ hv').1) ?_
            refine wp_astore (lv' := [(6, .ref (Γ 6 l)), (5, .int (nI l)), (4, .int (nI 8)), (3, .ref (Γ 0 5)), (2, .int (nI (timeMany s1 (2 * l)))), (0, .ref (Γ 0 0)), (1, .int (nI t))]) d_Net_time_56 (by decide) rfl ?_
            refine wp_aload d_Net_time_58 0 rfl ?_
            refine wp_ifnull d_Net_time_60 ?_
            refine wp_aload d_Net_time_63 0 rfl ?_
            refine wn_get_Lin d_Net_time_65 (((hR'.li l (by omega)).2 _ _ _ hv').2.1) 4 (by decide) wF_Net_135 rfl ?_
            refine wp_toI (z := (bI true)) (((hR'.li l (by omega)).2 _ _ _ hv').2.2.2.2.2.2.2) ?_
            refine wp_if_eqB (tgt := 99) d_Net_time_68 (by decide) (fun c => absurd c (by decide)) (fun _ => ?_)
            refine wp_iload_n d_Net_time_71 rfl 4 rfl ?_
            refine wp_aload d_Net_time_72 0 rfl ?_
            refine wn_get_Lin d_Net_time_74 (((hR'.li l (by omega)).2 _ _ _ hv').2.1) 2 (by decide) wF_Net_201 rfl ?_
            refine wp_toVR (o := some (Γ 7 (2 * l))) (z := .ref (Γ 7 (2 * l))) (((hR'.li l (by omega)).2 _ _ _ hv').2.2.2.2.2.1) rfl ?_
            refine wp_aload_n d_Net_time_77 rfl 5 rfl ?_
            refine wn_get_Net d_Net_time_78 (hR'.nt.1) 6 (by decide) wF_Net_139 rfl ?_
            refine wp_toI (z := (nI (sMin s1))) (((hR'.nt).2.2.2.2.2.2.2.1).trans (by rw [he])) ?_
            refine wp_callEV (k' := 0) (n' := 0) (r := 1) d_Net_time_81 (link_V (as := [.int (nI (sMin s1))]) (rest := [.int (nI (timeMany s1 (2 * l)))]) (r := (R_Chn, T_Chn, 7)) d_Net_time_81 cal_Chn_remind wM_Net_205 rfl (hN_o ((hR'.ci (2 * l) (by omega) (by rw [show 2 * l / 2 = l by omega, hv']; rfl)).1) (by decide)) rfl) cal_Chn_remind (c_Chn_remind hR' (c := 2 * l) (by omega) (by rw [show 2 * l / 2 = l by omega, hv']; rfl) (by omega) (by rw [he, show sCh (wCh s1 (timeCh s1 (2 * l))) (2 * l) = sCh s1 (2 * l) from timeCh_self s1 _]; exact hput (2 * l))) (Nat.le_of_ble_eq_true rfl) ⟨Nat.le_of_ble_eq_true rfl, Nat.le_of_ble_eq_true rfl⟩ (fun h' q81 => ?_)
            obtain ⟨ρ2, K2, N2, I2, R2, L2, E2, El2, Er2, rfl, hR2, hkp2⟩ := q81
            have hR2 : RepN Γ ρ2 K2 N2 I2 R2 L2 E2 El2 Er2 (wCh s1 (timeCh s1 (2 * l + 1))) := by have h9 := hR2; rw [he, time_2 hsvA] at h9; exact h9
            have hv2 : sLn (wCh s1 (timeCh s1 (2 * l + 1))) l = some (a, b, true) := by rw [hs1]; exact hv
            refine wp_aload d_Net_time_84 0 rfl ?_
            refine wn_get_Lin d_Net_time_86 (((hR2.li l (by omega)).2 _ _ _ hv2).2.1) 3 (by decide) wF_Net_208 rfl ?_
            refine wp_toVR (o := some (Γ 7 (2 * l + 1))) (z := .ref (Γ 7 (2 * l + 1))) (((hR2.li l (by omega)).2 _ _ _ hv2).2.2.2.2.2.2.1) rfl ?_
            refine wp_aload_n d_Net_time_89 rfl 5 rfl ?_
            refine wn_get_Net d_Net_time_90 (hR2.nt.1) 6 (by decide) wF_Net_139 rfl ?_
            refine wp_toI (z := (nI (sMin (wCh s1 (timeCh s1 (2 * l + 1)))))) (hR2.nt.2.2.2.2.2.2.2.1) ?_
            refine wp_callEV (k' := 0) (n' := 0) (r := 2) d_Net_time_93 (link_V (as := [.int (nI (sMin (wCh s1 (timeCh s1 (2 * l + 1)))))]) (rest := [.int (nI (if due1 s' (2 * l) (sMin s1) then 1 else 0)), .int (nI (timeMany s1 (2 * l)))]) (r := (R_Chn, T_Chn, 7)) d_Net_time_93 cal_Chn_remind wM_Net_205 rfl (hN_o ((hR2.ci (2 * l + 1) (by omega) (by rw [show (2 * l + 1) / 2 = l by omega, hv2]; rfl)).1) (by decide)) rfl) cal_Chn_remind (c_Chn_remind hR2 (c := 2 * l + 1) (m := sMin s1) (by omega) (by rw [show (2 * l + 1) / 2 = l by omega, hv2]; rfl) (by omega) (by rw [show sCh (wCh s1 (timeCh s1 (2 * l + 1))) (2 * l + 1) = sCh s1 (2 * l + 1) from timeCh_self s1 _]; exact hput (2 * l + 1))) (Nat.le_of_ble_eq_true rfl) ⟨Nat.le_of_ble_eq_true rfl, Nat.le_of_ble_eq_true rfl⟩ (fun h' q93 => ?_)
            obtain ⟨ρ3, K3, N3, I3, R3, L3, E3, El3, Er3, rfl, hR3, hkp3⟩ := q93
            have hR3 : RepN Γ ρ3 K3 N3 I3 R3 L3 E3 El3 Er3 (wCh s1 (timeCh s1 (2 * l + 1 + 1))) := by have h9 := hR3; rw [time_2 hsvB] at h9; exact h9
            refine wp_iaddN d_Net_time_96 ?_
            refine wp_iaddN d_Net_time_97 ?_
            refine wp_toI (z := (nI (timeMany s1 (2 * (l + 1))))) (congrArg nI (by rw [show 2 * (l + 1) = 2 * l + 1 + 1 by omega, many_2 hsvB, many_2 hsvA, he, Nat.add_assoc])) ?_
            refine wp_istore_n (lv' := [(2, .int (nI (timeMany s1 (2 * (l + 1))))), (6, .ref (Γ 6 l)), (5, .int (nI l)), (4, .int (nI 8)), (3, .ref (Γ 0 5)), (0, .ref (Γ 0 0)), (1, .int (nI t))]) d_Net_time_98 rfl (by decide) rfl ?_
            refine wp_iinc (lv' := [(5, .int (nI (l + 1))), (2, .int (nI (timeMany s1 (2 * (l + 1))))), (6, .ref (Γ 6 l)), (4, .int (nI 8)), (3, .ref (Γ 0 5)), (0, .ref (Γ 0 0)), (1, .int (nI t))]) d_Net_time_99 2 rfl (nI_1 _) (by decide) rfl ?_
            refine wp_goto (tgt := 45) d_Net_time_102 (by decide) ?_
            refine wp_lv [0, 3, 4, 1, 5, 6] rfl ?_
            exact ih (l + 1) _ ρ3 K3 N3 I3 R3 L3 E3 El3 Er3 (by omega) (by omega) hR3 ((hkp.tr hkp2).tr hkp3) rfl
  refine wp_iload_n d_Net_time_0 rfl 1 rfl ?_
  refine wp_if_ltN (tgt := 11) d_Net_time_1 (by decide) (by omega) ?_
  refine wp_iload_n d_Net_time_4 rfl 1 rfl ?_
  refine wp_sipush (v := nI 1000) d_Net_time_5 (by decide) ?_
  refine wp_leN (tgt := 21) d_Net_time_8 (by decide) (by omega) (by omega) (fun c8 => ?_) (fun c8 => ?_)
  · refine wp_aload_n d_Net_time_21 rfl 0 rfl ?_
    refine wp_dup d_Net_time_22 rfl ?_
    refine wn_get_Net d_Net_time_23 (hR.nt.1) 6 (by decide) wF_Net_139 rfl ?_
    refine wp_toI (z := (nI (sMin s))) (hR.nt.2.2.2.2.2.2.2.1) ?_
    refine wp_iload_n d_Net_time_26 rfl 1 rfl ?_
    refine wp_iaddN d_Net_time_27 ?_
    refine wn_put_Net (ty := t_Net 6) (I' := u2 I 6 (Γ 0 0) (nI ((sMin s) + t))) (R' := R) (L' := L) d_Net_time_28 (hR.nt.1) 6 (by decide) wF_Net_139 rfl (t_Net_ok 6 (by decide)) rfl rfl sF_6 (oI _ _ _ 6 _) ?_
    refine wp_iconst (v := nI 0) d_Net_time_31 (by decide) ?_
    refine wp_istore_n (lv' := [(2, .int (nI 0)), (0, .ref (Γ 0 0)), (1, .int (nI t))]) d_Net_time_32 rfl (by decide) rfl ?_
    refine wp_aload_n d_Net_time_33 rfl 1 rfl ?_
    refine wn_get_Net d_Net_time_34 (hR.nt.1) 2 (by decide) wF_Net_24 rfl ?_
    refine wp_toVR (o := some (Γ 0 5)) (z := .ref (Γ 0 5)) (hR.nt.2.2.2.1) rfl ?_
    refine wp_astore_n (lv' := [(3, .ref (Γ 0 5)), (2, .int (nI 0)), (0, .ref (Γ 0 0)), (1, .int (nI t))]) d_Net_time_37 rfl (by decide) rfl ?_
    refine wp_aload_n d_Net_time_38 rfl 0 rfl ?_
    refine wn_len (len := 8) d_Net_time_39 (hR.nt.2.2.2.2.2.2.2.2.2.2.1) rfl (hR.nt.2.2.2.2.2.2.2.2.2.2.2.1) ?_
    refine wp_istore (lv' := [(4, .int (nI 8)), (3, .ref (Γ 0 5)), (2, .int (nI 0)), (0, .ref (Γ 0 0)), (1, .int (nI t))]) d_Net_time_40 (by decide) rfl ?_
    refine wp_iconst (v := nI 0) d_Net_time_42 (by decide) ?_
    refine wp_istore (lv' := [(5, .int (nI 0)), (4, .int (nI 8)), (3, .ref (Γ 0 5)), (2, .int (nI 0)), (0, .ref (Γ 0 0)), (1, .int (nI t))]) d_Net_time_43 (by decide) rfl ?_
    exact L2 9 0 _ ρ K N _ R L E El Er (by omega) (by omega) (hR.minute (sMin s + t)) (Kp_u (by decide)) (by rw [hs1]; rfl)
  · exact absurd c8 (by omega)
theorem n_Net_time {G : Gt} {K N : Nat → Nat} {I : Nat → Nat → Int32} {R : Nat → Nat → Option Nat} {L : Nat → Nat → Int64} {E : Nat → Nat → Int32} {El : Nat → Nat → Int64} {Er : Nat → Nat → Option Nat} {Γ : Gm} {ρ : Nat → Nat} {s : Sa} (hR : RepN Γ ρ K N I R L E El Er s) {n0 : Nat} (hV : Inv n0 s) (t : Int32) : CallN G m_Net_time 6 82 [.ref (Γ 0 0), .int t] (hN K N I R L E El Er) 1 6 (stTime s t) false (Γ 0 0) := by
  unfold stTime
  cases hx : inZ t (nI 0) (nI 1000) with
  | false => exact CallN.ofT (c_Net_timeX hx) (by decide) (by decide) (by decide) (by decide) rfl hR.okT
  | true =>
    obtain ⟨j, hj, rfl⟩ := inZ_of (by decide) hx
    rw [if_pos rfl, nN_nI (by omega)]
    have hmn := hV.2.1.1
    have hn5 := hV.1
    exact CallN.ofE (c_Net_time1 hR hj (by omega) (fun c => (hV.2.2.1.2.2.2.1 c).2.2.2.2.2.2.2.2.1)) (by decide) (by decide) (by decide) (by decide) rfl (fun _ z => z.to)
end Cls17
