section Cls18
theorem LsC.take0 {G : Gt} {Γ : Gm} {ρ : Nat → Nat} {K N : Nat → Nat} {I : Nat → Nat → Int32} {R : Nat → Nat → Option Nat} {L : Nat → Nat → Int64} {E : Nat → Nat → Int32} {El : Nat → Nat → Int64} {Er : Nat → Nat → Option Nat} {t l : Nat} (h : LsC Γ ρ K I R t l []) : CallR G m_Lst_takeFirst 0 0 [.ref l] (hN K N I R L E El Er) 0 0 (some .null) (hN K N I R L E El Er) := by
  obtain ⟨ps, hc, he, hp⟩ := h
  rw [List.map_eq_nil_iff] at he
  subst he
  exact hc.take0
theorem LsC.take {G : Gt} {Γ : Gm} {ρ : Nat → Nat} {K N : Nat → Nat} {I : Nat → Nat → Int32} {R : Nat → Nat → Option Nat} {L : Nat → Nat → Int64} {E : Nat → Nat → Int32} {El : Nat → Nat → Int64} {Er : Nat → Nat → Option Nat} {t l : Nat} {x : Cy} {cs : List Cy} (h : LsC Γ ρ K I R t l (x :: cs)) : ∃ a xs, K a = 2 + 1 ∧ cp1 Γ I R a x ∧ (∀ b ∈ xs, K b = 2 + 1 ∧ ρ b = t) ∧ CallE G m_Lst_takeFirst 0 0 [.ref l] (hN K N I R L E El Er) 0 0 (some (.ref a)) (fun h' => ∃ I' R', h' = hN K N I' R' L E El Er ∧ lI l I I' ∧ lR l xs R R' ∧ LsC Γ ρ K I' R' t l cs) := by
  obtain ⟨ps, hc, he, hp⟩ := h
  cases ps with
  | nil => cases he
  | cons p ps =>
    obtain ⟨a, z⟩ := p
    simp only [List.map_cons, List.cons.injEq] at he
    obtain ⟨rfl, he⟩ := he
    have hc' : CLs K I R ρ t l (a :: ps.map Prod.fst) := hc
    have hm := hc'.2.2.2.2.2.1
    refine ⟨a, a :: ps.map Prod.fst, (hm a List.mem_cons_self).1, hp _ List.mem_cons_self, hm, CallE.up hc'.take (Nat.le_refl _) (Nat.le_refl _) (fun h' hq => ?_)⟩
    obtain ⟨I', R', e, h1, h2, h3⟩ := hq
    exact ⟨I', R', e, h1, h2, ps, h3, he, fun q hq => (hp q (List.mem_cons_of_mem _ hq)).o h1 h2⟩
theorem Kp_l {K : Nat → Nat} {I I' : Nat → Nat → Int32} {R R' : Nat → Nat → Option Nat} {l : Nat} {xs : List Nat} (h1 : lI l I I') (h2 : lR l xs R R') : Kp K I R K I' R' := fun q _ => ⟨rfl, h2 14 q (Or.inr ⟨by decide, by decide⟩) (Or.inl (by decide)), h2 33 q (Or.inr ⟨by decide, by decide⟩) (Or.inl (by decide)), h1 15 q (Or.inr (by decide)), h1 16 q (Or.inr (by decide)), h1 32 q (Or.inr (by decide)), h1 34 q (Or.inr (by decide))⟩
set_option maxRecDepth 20000 in
theorem c_Chn_takeMostUrgent0 {G : Gt} {K N : Nat → Nat} {I : Nat → Nat → Int32} {R : Nat → Nat → Option Nat} {L : Nat → Nat → Int64} {E : Nat → Nat → Int32} {El : Nat → Nat → Int64} {Er : Nat → Nat → Option Nat} {Γ : Gm} {ρ : Nat → Nat} {s : Sa} (hR : RepN Γ ρ K N I R L E El Er s) {c : Nat} (hc : c < 16) (hs : (sLn s (c / 2)).isSome = true) (hq0 : ∀ p, quF s c p = []) : CallR G m_Chn_takeMostUrgent 1 13 [.ref (Γ 7 c)] (hN K N I R L E El Er) 0 0 (some (.null)) (hN K N I R L E El Er) := by
  refine CallS.of (Nat.le_of_ble_eq_true rfl) ?_
  have L2 : ∀ (f p : Nat), 5 - p < f → p ≤ 5 → WP G m_Chn_takeMostUrgent (1, 13, 0, 0, (hN K N I R L E El Er), fun r9 h9 => r9 = .inl (some .null) ∧ h9 = (hN K N I R L E El Er)) 2 [(1, .int (nI p)), (0, .ref (Γ 7 c))] [] (hN K N I R L E El Er) 0 0 := by
    intro f
    induction f with
    | zero =>
      intro p h1
      omega
    | succ f ih =>
      intro p hf hp
      refine wp_iload_n d_Chn_takeMostUrgent_2 rfl 0 rfl ?_
      refine wp_iconst (v := nI 5) d_Chn_takeMostUrgent_3 (by decide) ?_
      refine wp_geN (tgt := 29) d_Chn_takeMostUrgent_4 (by decide) (by omega) (by omega) (fun c4 => ?_) (fun c4 => ?_)
      · refine wp_null d_Chn_takeMostUrgent_29 ?_
        exact wp_aret d_Chn_takeMostUrgent_30 rfl (Or.inl ⟨_, rfl⟩) (Or.inl rfl) ⟨rfl, rfl⟩
      · refine wp_aload_n d_Chn_takeMostUrgent_7 rfl 1 rfl ?_
        refine wn_get_Chn d_Chn_takeMostUrgent_8 ((hR.ci c hc hs).1) 0 (by decide) wF_Chn_11 rfl ?_
        refine wp_toVR (o := some (Γ 8 c)) (z := .ref (Γ 8 c)) ((hR.ci c hc hs).2.2.1) rfl ?_
        refine wp_iload_n d_Chn_takeMostUrgent_11 rfl 0 rfl ?_
        refine wn_ald (x := some (Γ 9 (5 * c + p))) d_Chn_takeMostUrgent_12 ((hR.ci c hc hs).2.2.2.2.2.1) rfl (by decide) (by rw [(hR.ci c hc hs).2.2.2.2.2.2.1]; omega) (by rw [(hR.ci c hc hs).2.2.2.2.2.2.1]; omega) ((hR.qu c hc hs p (by omega)).1) ?_
        refine wp_callV (r := 0) d_Chn_takeMostUrgent_13 (link_V (as := []) (rest := []) (r := (R_Lst, T_Lst, 3)) d_Chn_takeMostUrgent_13 cal_Lst_takeFirst wM_Chn_55 rfl (hN_o ((hR.qu c hc hs p (by omega)).2.2.kl) (by decide)) rfl) cal_Lst_takeFirst (LsC.take0 (by have h9 := (hR.qu c hc hs p (by omega)).2.2; rw [hq0 p] at h9; exact h9)) (Nat.le_of_ble_eq_true rfl) ⟨Nat.le_of_ble_eq_true rfl, Nat.le_of_ble_eq_true rfl⟩ ?_
        refine wp_astore_nN (lv' := [(2, .null), (1, .int (nI p)), (0, .ref (Γ 7 c))]) d_Chn_takeMostUrgent_16 rfl (by decide) rfl ?_
        refine wp_aload_nN d_Chn_takeMostUrgent_17 rfl 0 rfl ?_
        refine wp_ifnullN (tgt := 23) d_Chn_takeMostUrgent_18 (by decide) ?_
        refine wp_iinc (lv' := [(1, .int (nI (p + 1))), (2, .null), (0, .ref (Γ 7 c))]) d_Chn_takeMostUrgent_23 1 rfl (nI_1 _) (by decide) rfl ?_
        refine wp_goto (tgt := 2) d_Chn_takeMostUrgent_26 (by decide) ?_
        refine wp_lv [0, 2] rfl ?_
        exact ih (p + 1) (by omega) (by omega)
  refine wp_iconst (v := nI 0) d_Chn_takeMostUrgent_0 (by decide) ?_
  refine wp_istore_n (lv' := [(1, .int (nI 0)), (0, .ref (Γ 7 c))]) d_Chn_takeMostUrgent_1 rfl (by decide) rfl ?_
  exact L2 6 0 (by omega) (by omega)
set_option maxRecDepth 20000 in
theorem c_Chn_takeMostUrgent1 {G : Gt} {K N : Nat → Nat} {I : Nat → Nat → Int32} {R : Nat → Nat → Option Nat} {L : Nat → Nat → Int64} {E : Nat → Nat → Int32} {El : Nat → Nat → Int64} {Er : Nat → Nat → Option Nat} {Γ : Gm} {ρ : Nat → Nat} {s : Sa} (hR : RepN Γ ρ K N I R L E El Er s) {c : Nat} (hc : c < 16) (hs : (sLn s (c / 2)).isSome = true) {p0 a : Nat} {Pq : AHp → Prop} (hp0 : p0 < 5) (hq0 : ∀ p, p < p0 → quF s c p = []) (hat : CallE G m_Lst_takeFirst 0 0 [.ref (Γ 9 (5 * c + p0))] (hN K N I R L E El Er) 0 0 (some (.ref a)) Pq) : CallE G m_Chn_takeMostUrgent 1 13 [.ref (Γ 7 c)] (hN K N I R L E El Er) 0 0 (some (.ref a)) Pq := by
  refine CallS.of (Nat.le_of_ble_eq_true rfl) ?_
  have L2 : ∀ (f p : Nat), p0 - p < f → p ≤ p0 → WP G m_Chn_takeMostUrgent (1, 13, 0, 0, (hN K N I R L E El Er), fun r9 h9 => r9 = .inl (some (.ref a)) ∧ Pq h9) 2 [(1, .int (nI p)), (0, .ref (Γ 7 c))] [] (hN K N I R L E El Er) 0 0 := by
    intro f
    induction f with
    | zero =>
      intro p h1
      omega
    | succ f ih =>
      intro p hf hp
      refine wp_iload_n d_Chn_takeMostUrgent_2 rfl 0 rfl ?_
      refine wp_iconst (v := nI 5) d_Chn_takeMostUrgent_3 (by decide) ?_
      refine wp_geN (tgt := 29) d_Chn_takeMostUrgent_4 (by decide) (by omega) (by omega) (fun c4 => ?_) (fun c4 => ?_)
      · exfalso; omega
      · refine wp_aload_n d_Chn_takeMostUrgent_7 rfl 1 rfl ?_
        refine wn_get_Chn d_Chn_takeMostUrgent_8 ((hR.ci c hc hs).1) 0 (by decide) wF_Chn_11 rfl ?_
        refine wp_toVR (o := some (Γ 8 c)) (z := .ref (Γ 8 c)) ((hR.ci c hc hs).2.2.1) rfl ?_
        refine wp_iload_n d_Chn_takeMostUrgent_11 rfl 0 rfl ?_
        refine wn_ald (x := some (Γ 9 (5 * c + p))) d_Chn_takeMostUrgent_12 ((hR.ci c hc hs).2.2.2.2.2.1) rfl (by decide) (by rw [(hR.ci c hc hs).2.2.2.2.2.2.1]; omega) (by rw [(hR.ci c hc hs).2.2.2.2.2.2.1]; omega) ((hR.qu c hc hs p (by omega)).1) ?_
        by_cases hpp : p = p0
        · subst hpp
          refine wp_callEV (k' := 0) (n' := 0) (r := 0) d_Chn_takeMostUrgent_13 (link_V (as := []) (rest := []) (r := (R_Lst, T_Lst, 3)) d_Chn_takeMostUrgent_13 cal_Lst_takeFirst wM_Chn_55 rfl (hN_o ((hR.qu c hc hs p (by omega)).2.2.kl) (by decide)) rfl) cal_Lst_takeFirst hat (Nat.le_of_ble_eq_true rfl) ⟨Nat.le_of_ble_eq_true rfl, Nat.le_of_ble_eq_true rfl⟩ (fun h' q13 => ?_)
          refine wp_astore_n (lv' := [(2, .ref a), (1, .int (nI p)), (0, .ref (Γ 7 c))]) d_Chn_takeMostUrgent_16 rfl (by decide) rfl ?_
          refine wp_aload_n d_Chn_takeMostUrgent_17 rfl 0 rfl ?_
          refine wp_ifnull d_Chn_takeMostUrgent_18 ?_
          refine wp_aload_n d_Chn_takeMostUrgent_21 rfl 0 rfl ?_
          exact wp_aret d_Chn_takeMostUrgent_22 rfl (Or.inl ⟨_, rfl⟩) (Or.inr ⟨_, rfl⟩) ⟨rfl, q13⟩
        · refine wp_callV (r := 0) d_Chn_takeMostUrgent_13 (link_V (as := []) (rest := []) (r := (R_Lst, T_Lst, 3)) d_Chn_takeMostUrgent_13 cal_Lst_takeFirst wM_Chn_55 rfl (hN_o ((hR.qu c hc hs p (by omega)).2.2.kl) (by decide)) rfl) cal_Lst_takeFirst (LsC.take0 (by have h9 := (hR.qu c hc hs p (by omega)).2.2; rw [hq0 p (by omega)] at h9; exact h9)) (Nat.le_of_ble_eq_true rfl) ⟨Nat.le_of_ble_eq_true rfl, Nat.le_of_ble_eq_true rfl⟩ ?_
          refine wp_astore_nN (lv' := [(2, .null), (1, .int (nI p)), (0, .ref (Γ 7 c))]) d_Chn_takeMostUrgent_16 rfl (by decide) rfl ?_
          refine wp_aload_nN d_Chn_takeMostUrgent_17 rfl 0 rfl ?_
          refine wp_ifnullN (tgt := 23) d_Chn_takeMostUrgent_18 (by decide) ?_
          refine wp_iinc (lv' := [(1, .int (nI (p + 1))), (2, .null), (0, .ref (Γ 7 c))]) d_Chn_takeMostUrgent_23 1 rfl (nI_1 _) (by decide) rfl ?_
          refine wp_goto (tgt := 2) d_Chn_takeMostUrgent_26 (by decide) ?_
          refine wp_lv [0, 2] rfl ?_
          exact ih (p + 1) (by omega) (by omega)
  refine wp_iconst (v := nI 0) d_Chn_takeMostUrgent_0 (by decide) ?_
  refine wp_istore_n (lv' := [(1, .int (nI 0)), (0, .ref (Γ 7 c))]) d_Chn_takeMostUrgent_1 rfl (by decide) rfl ?_
  exact L2 6 0 (by omega) (by omega)
theorem fr1.ext {Γ : Gm} {K : Nat → Nat} {I : Nat → Nat → Int32} {R : Nat → Nat → Option Nat} {sent : List (Nat × Nat)} {a : Nat} {f : Nat × Nat} (h : fr1 Γ K I R sent a f) (x : Nat × Nat) : fr1 Γ K I R (sent ++ [x]) a f := by
  refine ⟨h.1, fun h0 => ?_, h.2.2⟩
  obtain ⟨q, z, e1, e2, e3⟩ := h.2.1 h0
  exact ⟨q, z, e1, by rw [List.getElem?_append_left (List.getElem?_eq_some_iff.mp e2).1]; exact e2, e3⟩
theorem RgF.ext {Γ : Gm} {K N : Nat → Nat} {I : Nat → Nat → Int32} {R Er : Nat → Nat → Option Nat} {f r cap : Nat} {sent fs : List (Nat × Nat)} (h : RgF Γ K N I R Er f r cap sent fs) (x : Nat × Nat) : RgF Γ K N I R Er f r cap (sent ++ [x]) fs := by
  obtain ⟨ps, hc, he, hp⟩ := h
  exact ⟨ps, hc, he, fun q hq => (hp q hq).ext x⟩
theorem Fr0_newF {ρ : Nat → Nat} {K N : Nat → Nat} {I : Nat → Nat → Int32} {R : Nat → Nat → Option Nat} {L : Nat → Nat → Int64} {E : Nat → Nat → Int32} {El : Nat → Nat → Int64} {Er : Nat → Nat → Option Nat} {q : Nat} (hq : K q = 0) (x y : Int32) (z : Option Nat) : Fr0 ρ ρ K N (va_up K q (6 + 1)) N I (u2 (u2 I 32 q x) 34 q y) R (u2r R 33 q z) L L E E El El Er Er [] [] [] [] [] :=
  ⟨fun p hp => ⟨by simp [va_up, dne2 hq hp], rfl, rfl⟩, fun g p _ hp => by rw [u2_q _ _ (dne2 hq hp), u2_q _ _ (dne2 hq hp)], fun g p _ hp => u2r_q _ _ (dne2 hq hp), fun _ _ _ => rfl, fun _ _ _ => rfl, fun _ _ _ => rfl, fun _ _ _ => rfl⟩
theorem kpF_sent {d : Ch} {x : Nat × Nat} (h : cKept d ≤ (cSent d).length) : kpF (sentC d x) = kpF d ++ [(0, (cSent d).length + 1)] := by
  unfold kpF sentC
  show (List.range (cKept d + 1)).map (fun k => (0, (cSent d ++ [x]).length - (cKept d + 1) + k + 1)) = _
  rw [List.range_succ, List.map_append, List.length_append, List.length_singleton]
  congr 1
  · exact List.map_congr_left fun k _ => by congr 1; omega
  · show [(0, _)] = [(0, _)]
    congr 2
    omega
/-- a frame is sent: number, kept -/
theorem RepN.sent {Γ : Gm} {ρ : Nat → Nat} {K N : Nat → Nat} {I : Nat → Nat → Int32} {R : Nat → Nat → Option Nat} {L : Nat → Nat → Int64} {E : Nat → Nat → Int32} {El : Nat → Nat → Int64} {Er : Nat → Nat → Option Nat} {s : Sa} {c : Nat} (h : RepN Γ ρ K N I R L E El Er s) (hc : c < 16) (hs : (sLn s (c / 2)).isSome = true) (hk : cKept (sCh s c) ≤ (cSent (sCh s c)).length) (hk2 : cKept (sCh s c) < 20) {q a : Nat} {x : Nat × Nat} (hq : K q = 0) (ha : K a = 2 + 1) (ha1 : R 14 a = some (Γ 14 x.1)) (ha2 : I 15 a = nI x.2) {I' : Nat → Nat → Int32} {Er' : Nat → Nat → Option Nat}
    (h1 : fI (Γ 10 c) (u2 (u2 (u2 I 10 (Γ 7 c) (nI ((cSent (sCh s c)).length + 1 + 1))) 32 q (nI ((cSent (sCh s c)).length + 1))) 34 q (bI false)) I') (h2 : fE (Γ 11 c) Er Er') (h3 : RgF Γ (va_up K q (6 + 1)) N I' (u2r R 33 q (some a)) Er' (Γ 10 c) (Γ 11 c) 20 (cSent (sCh s c) ++ [x]) (kpF (sCh s c) ++ [(0, (cSent (sCh s c)).length + 1)])) : RepN Γ ρ (va_up K q (6 + 1)) N I' (u2r R 33 q (some a)) L E El Er' (ch1 s c (sentC (sCh s c) x)) := by
  obtain ⟨a1, a2, a3, a4, a5, a6⟩ := h.ri c hc hs
  obtain ⟨e1, e2, e3, e4, e5, e6, e7, d1, d2, d3, -⟩ := h.ci c hc hs
  have hso : (sLn s (otC c / 2)).isSome = true := by rw [otC_2]; exact hs
  obtain ⟨o1, -, -, -, -, -, -, -, -, -, d4⟩ := h.ci (otC c) (otC_lt hc) hso
  rw [otC_otC] at d4
  have kc : K (Γ 7 c) ≠ 0 := by omega
  have n1 : Γ 12 c ≠ Γ 10 c := fun e => by rw [e, a1] at a3; omega
  have n2 : Γ 13 c ≠ Γ 11 c := fun e => by rw [e, a2] at a4; omega
  have eI : ∀ g p, K p ≠ 0 → (g ≠ 10 ∨ p ≠ Γ 7 c) → (p ≠ Γ 10 c ∨ (g ≠ 36 ∧ g ≠ 37)) → I' g p = I g p := fun g p hp hg hf => by
    rw [h1 g p hf, u2_q _ _ (dne2 hq hp), u2_q _ _ (dne2 hq hp)]
    by_cases hpc : p = Γ 7 c
    · rw [u2_ne _ _ (hg.resolve_right (fun z => z hpc))]
    · exact u2_q _ _ hpc
  have F : Fr0 ρ ρ K N (va_up K q (6 + 1)) N I I' R (u2r R 33 q (some a)) L L E E El El Er Er' [10, 11, 12, 13, 36, 37] [] [] [] [Γ 11 c, Γ 13 c] :=
    ⟨fun p hp => ⟨by simp [va_up, dne2 hq hp], rfl, rfl⟩, fun g p hg hp => eI g p hp (Or.inl (fun e => hg (by rw [e]; decide))) (Or.inr ⟨fun e => hg (by rw [e]; decide), fun e => hg (by rw [e]; decide)⟩), fun g p _ hp => u2r_q _ _ (dne2 hq hp), fun _ _ _ => rfl, fun _ _ _ => rfl, fun _ _ _ => rfl, fun p hp _ => h2 p (fun e => hp (by rw [e]; simp))⟩
  have hD : DF (va_up K q (6 + 1)) I' (u2r R 33 q (some a)) L E El Er' := by
    have h0 : DF (va_up K q (6 + 1)) (u2 (u2 (u2 I 10 (Γ 7 c) (nI ((cSent (sCh s c)).length + 1 + 1))) 32 q (nI ((cSent (sCh s c)).length + 1))) 34 q (bI false)) (u2r R 33 q (some a)) L E El Er := DF.pI (DF.pR (DF.pI (DF.pK (DF.pI h.df kc) (by decide)) (by simp [va_up])) (by simp [va_up])) (by simp [va_up])
    exact DF_f h0 (by have := a5.kf.1; simp [va_up, dne2 hq this, this]) (by have := a5.kf.2; simp [va_up, dne2 hq this, this]) h1 h2
  refine h.ch hc hs F hD (fun g p hg p1 p2 hp => eI g p hp (Or.inl (by omega)) (Or.inl p1)) (fun g p g1 g2 hp1 hp => eI g p hp (Or.inr hp1) (Or.inr ⟨by omega, by omega⟩)) (fun p hp1 hp => eI 13 p hp (Or.inl (by decide)) (Or.inr ⟨by decide, by decide⟩)) (by rw [kpF_sent hk]; exact h3) ?_ ?_ ((eI 11 _ kc (Or.inl (by decide)) (Or.inr ⟨by decide, by decide⟩)).trans d2) ((eI 12 _ kc (Or.inl (by decide)) (Or.inr ⟨by decide, by decide⟩)).trans d3) ((eI 13 _ (by omega) (Or.inl (by decide)) (Or.inr ⟨by decide, by decide⟩)).trans d4)
  · have h4 : RgF Γ K N (u2 I 10 (Γ 7 c) (nI ((cSent (sCh s c)).length + 1 + 1))) R Er (Γ 12 c) (Γ 13 c) 200 (cSent (sCh s c) ++ [x]) (cWire (sCh s c)) := (a6.ext x).u (by decide)
    have h5 := h4.fr (Fr0_newF (ρ := ρ) (L := L) (E := E) (El := El) hq (nI ((cSent (sCh s c)).length + 1)) (bI false) (some a)) (by decide) (by decide) List.not_mem_nil
    exact h5.o n1 n2 h1 h2
  · rw [h1 10 _ (Or.inr ⟨by decide, by decide⟩), u2_q _ _ (dne2 hq kc), u2_q _ _ (dne2 hq kc), u2_at, if_pos rfl]
    show _ = nI ((cSent (sCh s c) ++ [x]).length + 1)
    rw [List.length_append, List.length_singleton]
end Cls18
