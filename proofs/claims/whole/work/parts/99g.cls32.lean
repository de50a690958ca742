section Cls32
theorem rt_new {K N : Nat → Nat} {I : Nat → Nat → Int32} {R : Nat → Nat → Option Nat} {L : Nat → Nat → Int64} {E : Nat → Nat → Int32} {El : Nat → Nat → Int64} {Er : Nat → Nat → Option Nat} {Γ : Gm} {ρ : Nat → Nat} {s : Sa} (hR : RepN Γ ρ K N I R L E El Er s) {n0 : Nat} (hV : Inv n0 s) {x q : Nat} {e : RtE} {t : Int64} {len mn ot : Int32} (hx : x < 6) (hq : K q = 0) (hl : (sRt s x).length < 16) (h1 : t = lN (leN e.1)) (h2 : len = nI e.1.length) (h3 : mn = o2i e.2.1) (h4 : ot = o2i e.2.2) : NetOK (Γ 0 0) (wRt s (va_up (sRt s) x (sRt s x ++ [e]))) (hN (va_up K q (5 + 1)) N (u2 (u2 (u2 (u2 I 29 q len) 30 q mn) 31 q ot) 51 (Γ 1 x) (nI ((sRt s x).length + 1))) R (u2l L 28 q t) E El (u2r Er (Γ 2 x) (sRt s x).length (some q))) := by
  have hE : GmE Γ (va_up Γ 5 (va_up (Γ 5) (16 * x + (sRt s x).length) q)) s := by
    refine ⟨fun k hk => if_neg (by omega), fun y k e hy he => ?_, fun l _ _ => rfl, fun k c h7 h13 _ _ _ => by unfold va_up; rw [if_neg (by omega)], fun c p _ _ _ => rfl, fun k m h14 h16 hm => by unfold va_up; rw [if_neg (by omega)]⟩
    have hk := (List.getElem?_eq_some_iff.mp he).1
    have h6 := (hV.2.1.2.2.2.2.2.1 y).1
    show va_up (Γ 5) (16 * x + (sRt s x).length) q (16 * y + k) = _
    refine if_neg (fun z => ?_)
    have hyx : y = x := by omega
    subst hyx
    omega
  have g5 : (va_up Γ 5 (va_up (Γ 5) (16 * x + (sRt s x).length) q)) 5 (16 * x + (sRt s x).length) = q := by
    show va_up (Γ 5) (16 * x + (sRt s x).length) q (16 * x + (sRt s x).length) = q
    exact if_pos rfl
  revert hE g5
  generalize (va_up Γ 5 (va_up (Γ 5) (16 * x + (sRt s x).length) q)) = Γ'
  intro hE g5
  have h := hR.gm hV hE
  have z0 : Γ' 0 = Γ 0 := hE.1 0 (by decide)
  have z1 : Γ' 1 = Γ 1 := hE.1 1 (by decide)
  have z2 : Γ' 2 = Γ 2 := hE.1 2 (by decide)
  rw [← z0, ← z1, ← z2]
  refine ⟨Γ', ρ, _, _, _, _, _, _, _, _, rfl, ?_, rfl⟩
  have k1 := (h.sw x hx).2.1
  have k2 := (h.sw x hx).2.2.2.2.2.2.1
  have F : Fr0 ρ ρ K N (va_up K q (5 + 1)) N I (u2 (u2 (u2 (u2 I 29 q len) 30 q mn) 31 q ot) 51 (Γ' 1 x) (nI ((sRt s x).length + 1))) R R L (u2l L 28 q t) E E El El Er (u2r Er (Γ' 2 x) (sRt s x).length (some q)) [51] [] [] [] [Γ' 2 x] := ⟨fun p hp => ⟨by simp [va_up, dne2 hq hp], rfl, rfl⟩, fun g p hg hp => by rw [u2_ne _ _ (fun z => hg (List.mem_singleton.mpr z)), u2_q _ _ (dne2 hq hp), u2_q _ _ (dne2 hq hp), u2_q _ _ (dne2 hq hp)], fun _ _ _ _ => rfl, fun g p hp => u2l_q _ _ (dne2 hq hp), fun _ _ _ => rfl, fun _ _ _ => rfl, fun p hp _ => u2r_ne _ _ (fun z => hp (List.mem_singleton.mpr z))⟩
  have kq : (va_up K q (5 + 1)) q = 5 + 1 := kat _ _ _
  have hD : DF (va_up K q (5 + 1)) (u2 (u2 (u2 (u2 I 29 q len) 30 q mn) 31 q ot) 51 (Γ' 1 x) (nI ((sRt s x).length + 1))) R (u2l L 28 q t) E El (u2r Er (Γ' 2 x) (sRt s x).length (some q)) := DF.pEr (DF.pL (DF.pI (DF.pI (DF.pI (DF.pI (DF.pK h.df (by decide)) (by omega)) (by omega)) (by omega)) (by rw [F.k k1]; decide)) (by omega)) (by rw [F.a k2]; decide)
  have mE : ∀ p t, K p = 20 + t → t ≠ 6 → p ∉ [Γ' 2 x] := fun p t hp ht hm => by rw [List.mem_singleton.mp hm] at hp; omega
  refine ⟨hD, h.nt.fr F (by decide) (fun _ _ => List.not_mem_nil), h.dr.fr F (by decide) List.not_mem_nil, fun y hy => ?_, fun y hy k hk => ?_, h.dk.fr F (fun x hx => by have := (h.sw x hx).2.2.2.2.2.2.2.2.2.1; omega) (fun y hy => mE _ 7 (h.sw y hy).2.2.2.2.2.2.2.2.2.1 (by decide)), h.hl.fr F (by decide) (by decide), h.li.fr F (by have := h.nt.2.2.2.2.2.2.2.2.2.2.1; omega) (by decide) (by decide) (mE _ 9 h.nt.2.2.2.2.2.2.2.2.2.2.1 (by decide)), h.ci.fr F (fun g h1 h2 hm => by simp only [List.mem_cons, List.not_mem_nil, or_false] at hm; omega) (fun _ _ _ => List.not_mem_nil), h.qu.fr F (fun c hc hs => by have := (h.ci c hc hs).2.2.2.2.2.1; omega) (by decide) (by decide) (fun c hc hs => mE _ 4 (h.ci c hc hs).2.2.2.2.2.1 (by decide)), h.ri.fr F (by decide) (by decide) (fun c hc hs => ?_), h.mg.fr F (by have := h.nt.2.2.2.2.2.2.2.2.2.2.2.2.1; omega) (by decide) (by decide) (fun _ _ => ⟨List.not_mem_nil, List.not_mem_nil⟩) (mE _ 7 h.nt.2.2.2.2.2.2.2.2.2.2.2.2.1 (by decide))⟩
  · obtain ⟨a, b1, b2, c1, c2, c3, d1, d2, d3, e1, e2, e3, f1, f2, f3, f4, f5⟩ := h.sw y hy
    have k : K (Γ' 1 y) ≠ 0 := by omega
    refine ⟨F.er (mE _ 8 h.nt.2.2.2.2.2.2.2.2.1 (by decide)) (by have := h.nt.2.2.2.2.2.2.2.2.1; omega) a, F.k b1, F.p k b2, F.r List.not_mem_nil k c1, F.r List.not_mem_nil k c2, F.r List.not_mem_nil k c3, F.a d1, F.n (by omega) d2, F.p (by omega) d3, F.a e1, F.n (by omega) e2, F.p (by omega) e3, ?_, F.i (by decide) k f2, F.i (by decide) k f3, F.i (by decide) k f4, F.i (by decide) k f5⟩
    by_cases hyx : y = x
    · subst hyx
      rw [u2_at, if_pos rfl]
      show _ = nI (va_up (sRt s) y (sRt s y ++ [e]) y).length
      simp [va_up]
    · rw [u2_q _ _ (sw_ne h hx hy hyx), u2_q _ _ (dne2 hq k), u2_q _ _ (dne2 hq k), u2_q _ _ (dne2 hq k), f1]
      show nI (sRt s y).length = nI (va_up (sRt s) x (sRt s x ++ [e]) y).length
      simp [va_up, hyx]
  · have ky := (h.sw y hy).2.2.2.2.2.2.1
    obtain ⟨o1, o2⟩ := h.en y hy k hk
    by_cases hyx : y = x
    · subst hyx
      show ((va_up (sRt s) y (sRt s y ++ [e]) y)[k]? = none → _) ∧ ∀ e', (va_up (sRt s) y (sRt s y ++ [e]) y)[k]? = some e' → _
      rw [show va_up (sRt s) y (sRt s y ++ [e]) y = sRt s y ++ [e] by simp [va_up]]
      rcases Nat.lt_trichotomy k (sRt s y).length with hlt | heq | hgt
      · rw [List.getElem?_append_left hlt, u2r_at, if_neg (by omega)]
        exact ⟨o1, fun e' he' => ⟨(o2 e' he').1, (o2 e' he').2.fr F (fun g h1 h2 hm => by simp only [List.mem_cons, List.not_mem_nil, or_false] at hm; omega)⟩⟩
      · subst heq
        rw [List.getElem?_append_right (Nat.le_refl _), Nat.sub_self, u2r_at, if_pos rfl]
        refine ⟨fun z => (by cases z), fun e' he' => ?_⟩
        cases he'
        refine ⟨by rw [g5], ?_⟩
        unfold en1
        rw [g5]
        exact ⟨kq, by rw [u2l_at, if_pos rfl, h1], by rw [u2_ne _ _ (by decide), u2_ne _ _ (by decide), u2_ne _ _ (by decide), u2_at, if_pos rfl, h2], by rw [u2_ne _ _ (by decide), u2_ne _ _ (by decide), u2_at, if_pos rfl, h3], by rw [u2_ne _ _ (by decide), u2_at, if_pos rfl, h4]⟩
      · rw [List.getElem?_eq_none (by rw [List.length_append, List.length_singleton]; omega), u2r_at, if_neg (by omega)]
        exact ⟨fun _ => o1 (List.getElem?_eq_none (by omega)), fun e' z => (by cases z)⟩
    · show ((va_up (sRt s) x (sRt s x ++ [e]) y)[k]? = none → _) ∧ ∀ e', (va_up (sRt s) x (sRt s x ++ [e]) y)[k]? = some e' → _
      rw [show va_up (sRt s) x (sRt s x ++ [e]) y = sRt s y by simp [va_up, hyx]]
      have hne : Γ' 2 y ∉ [Γ' 2 x] := fun hm => by
        have a := (h.sw y hy).2.2.2.2.2.2.2.2.1
        rw [List.mem_singleton.mp hm, (h.sw x hx).2.2.2.2.2.2.2.2.1] at a
        omega
      exact ⟨fun z => F.er hne (by omega) (o1 z), fun e' he' => ⟨F.er hne (by omega) (o2 e' he').1, (o2 e' he').2.fr F (fun g h1 h2 hm => by simp only [List.mem_cons, List.not_mem_nil, or_false] at hm; omega)⟩⟩
  · obtain ⟨-, -, -, -, ⟨p5, f5, -⟩, ⟨p6, f6, -⟩⟩ := h.ri c hc hs
    have a5 := f5.2.1
    have a6 := f6.2.1
    exact ⟨mE _ 5 a5 (by decide), mE _ 5 a6 (by decide)⟩
theorem i2o_o {s : Sa} {z : Int32} {x : Nat} (h : lnOrNone s z x = true) : z = o2i (i2o z) := by
  unfold i2o
  by_cases h1 : z = -1
  · rw [if_pos h1]
    exact h1
  · rw [if_neg h1]
    unfold lnOrNone atB at h
    rw [decide_eq_false h1, Bool.false_or, Bool.and_eq_true_iff] at h
    obtain ⟨j, hj, rfl⟩ := inZ_of (by decide) h.1
    show nI j = nI (nN (nI j))
    rw [nN_nI (by omega)]
set_option maxRecDepth 20000 in
theorem c_Swt_addEntry {G : Gt} {K N : Nat → Nat} {I : Nat → Nat → Int32} {R : Nat → Nat → Option Nat} {L : Nat → Nat → Int64} {E : Nat → Nat → Int32} {El : Nat → Nat → Int64} {Er : Nat → Nat → Option Nat} {w es q c : Nat} (hw : K w = 10 + 1) (he : K es = 20 + 6) (hq : K q = 5 + 1) (r48 : R 48 w = some es) (i51 : I 51 w = nI c) (hn : N es = 16) (hc : c < 16) : CallR G m_Swt_addEntry 0 0 [.ref w, .ref q] (hN K N I R L E El Er) 0 0 none (hN K N (u2 I 51 w (nI (c + 1))) R L E El (u2r Er es c (some q))) := by
  refine CallS.of (Nat.le_of_ble_eq_true rfl) ?_
  refine wp_aload_n d_Swt_addEntry_0 rfl 0 rfl ?_
  refine wn_get_Swt d_Swt_addEntry_1 (hw) 3 (by decide) wF_Swt_30 rfl ?_
  refine wp_toI (z := (nI c)) (i51) ?_
  refine wp_bipush (v := nI 16) d_Swt_addEntry_4 (by decide) ?_
  refine wp_geN (tgt := 29) d_Swt_addEntry_6 (by decide) (by omega) (by omega) (fun c6 => ?_) (fun c6 => ?_)
  · omega
  · refine wp_aload_n d_Swt_addEntry_9 rfl 0 rfl ?_
    refine wn_get_Swt d_Swt_addEntry_10 (hw) 0 (by decide) wF_Swt_11 rfl ?_
    refine wp_toVR (o := some es) (z := .ref es) (r48) rfl ?_
    refine wp_aload_n d_Swt_addEntry_13 rfl 0 rfl ?_
    refine wn_get_Swt d_Swt_addEntry_14 (hw) 3 (by decide) wF_Swt_30 rfl ?_
    refine wp_toI (z := (nI c)) (i51) ?_
    refine wp_aload_n d_Swt_addEntry_17 rfl 1 rfl ?_
    refine wn_ast d_Swt_addEntry_18 (he) rfl (by decide) (hq) (by decide) rfl (by rw [hn]; omega) (by rw [hn]; omega) ?_
    refine wp_aload_n d_Swt_addEntry_19 rfl 0 rfl ?_
    refine wp_dup d_Swt_addEntry_20 rfl ?_
    refine wn_get_Swt d_Swt_addEntry_21 (hw) 3 (by decide) wF_Swt_30 rfl ?_
    refine wp_toI (z := (nI c)) (i51) ?_
    refine wp_iconst (v := nI 1) d_Swt_addEntry_24 (by decide) ?_
    refine wp_iaddN d_Swt_addEntry_25 ?_
    refine wn_put_Swt (ty := t_Swt 3) (I' := u2 I 51 w (nI (c + 1))) (R' := R) (L' := L) d_Swt_addEntry_26 (hw) 3 (by decide) wF_Swt_30 rfl (t_Swt_ok 3 (by decide)) rfl rfl sF_51 (oI _ _ _ 51 _) ?_
    exact wp_vret d_Swt_addEntry_29 rfl ⟨rfl, rfl⟩
set_option maxRecDepth 20000 in
theorem c_Net_routeSX {G : Gt} {K N : Nat → Nat} {I : Nat → Nat → Int32} {R : Nat → Nat → Option Nat} {L : Nat → Nat → Int64} {E : Nat → Nat → Int32} {El : Nat → Nat → Int64} {Er : Nat → Nat → Option Nat} {Γ : Gm} {ρ : Nat → Nat} {s : Sa} (hR : RepN Γ ρ K N I R L E El Er s) {x one two ln mn ot : Int32} (hx : inZ x (nI 0) (nI 5) = false) : CallT G m_Net_route 7 95 [.ref (Γ 0 0), .int x, .int one, .int two, .int ln, .int mn, .int ot] (hN K N I R L E El Er) 1 6 0 (fun h' => h' = (hN K N I R L E El Er)) := by
  refine CallS.of (Nat.le_of_ble_eq_true rfl) ?_
  refine wp_aload_n d_Net_route_0 rfl 0 rfl ?_
  refine wp_iload_n d_Net_route_1 rfl 1 rfl ?_
  exact wp_callT (k' := 1) (n' := 6) (r := 0) d_Net_route_2 (link_V (as := [.int x]) (rest := []) (r := (R_Net, T_Net, 7)) d_Net_route_2 cal_Net_switchAt wM_Net_39 rfl (hN_o (hR.nt.1) (by decide)) rfl) cal_Net_switchAt rfl (c_Net_switchAtX hx) (Nat.le_of_ble_eq_true rfl) ⟨Nat.le_of_ble_eq_true rfl, Nat.le_of_ble_eq_true rfl⟩ (fun h' q => ⟨rfl, q⟩)
set_option maxRecDepth 20000 in
theorem c_Net_routeLX {G : Gt} {K N : Nat → Nat} {I : Nat → Nat → Int32} {R : Nat → Nat → Option Nat} {L : Nat → Nat → Int64} {E : Nat → Nat → Int32} {El : Nat → Nat → Int64} {Er : Nat → Nat → Option Nat} {Γ : Gm} {ρ : Nat → Nat} {s : Sa} (hR : RepN Γ ρ K N I R L E El Er s) {x : Nat} {one two mn ot : Int32} (hx : x < 6) {ln : Int32} (hln : inZ ln (nI 1) (nI 8) = false) : CallT G m_Net_route 6 82 [.ref (Γ 0 0), .int (nI x), .int one, .int two, .int ln, .int mn, .int ot] (hN K N I R L E El Er) 1 6 0 (fun h' => h' = (hN K N I R L E El Er)) := by
  refine CallS.of (Nat.le_of_ble_eq_true rfl) ?_
  refine wp_aload_n d_Net_route_0 rfl 0 rfl ?_
  refine wp_iload_n d_Net_route_1 rfl 1 rfl ?_
  refine wp_callV (r := 0) d_Net_route_2 (link_V (as := [.int (nI x)]) (rest := []) (r := (R_Net, T_Net, 7)) d_Net_route_2 cal_Net_switchAt wM_Net_39 rfl (hN_o (hR.nt.1) (by decide)) rfl) cal_Net_switchAt (c_Net_switchAt hR hx) (Nat.le_of_ble_eq_true rfl) ⟨Nat.le_of_ble_eq_true rfl, Nat.le_of_ble_eq_true rfl⟩ ?_
  refine wp_astore (lv' := [(7, .ref (Γ 1 x)), (0, .ref (Γ 0 0)), (1, .int (nI x)), (2, .int one), (3, .int two), (4, .int ln), (5, .int mn), (6, .int ot)]) d_Net_route_5 (by decide) rfl ?_
  refine wp_iload_n d_Net_route_7 rfl 3 rfl ?_
  refine wp_i2l d_Net_route_8 rfl ?_
  refine wp_ldc2 (v := 4294967295) d_Net_route_9 wK_Net_59 ?_
  refine wp_land d_Net_route_12 ?_
  refine wp_iload_n d_Net_route_13 rfl 4 rfl ?_
  refine wp_i2l d_Net_route_14 rfl ?_
  refine wp_bipush (v := nI 32) d_Net_route_15 (by decide) ?_
  refine wp_lshl (v := two.toInt64 <<< ((nI 32).toInt64 &&& 63)) d_Net_route_17 rfl ?_
  refine wp_lor d_Net_route_18 ?_
  refine wp_toL (z := lN (pT one two)) (pf64 one two) ?_
  refine wp_lstore (lv' := [(8, .long (lN (pT one two))), (7, .ref (Γ 1 x)), (0, .ref (Γ 0 0)), (1, .int (nI x)), (2, .int one), (3, .int two), (4, .int ln), (5, .int mn), (6, .int ot)]) d_Net_route_19 (by decide) rfl ?_
  refine wp_lload d_Net_route_21 0 rfl ?_
  refine wp_iload d_Net_route_23 6 rfl ?_
  refine wp_callV (r := 0) d_Net_route_25 (link_S (av := [.long (lN (pT one two)), .int ln]) (rest := []) d_Net_route_25 cal_Net_isPrefix wM_Net_61 rfl) cal_Net_isPrefix (c_Net_isPrefixX hln) (Nat.le_of_ble_eq_true rfl) ⟨Nat.le_of_ble_eq_true rfl, Nat.le_of_ble_eq_true rfl⟩ ?_
  refine wp_if_eqB (tgt := 41) d_Net_route_28 (by decide) (fun _ => ?_) (fun c => absurd c (by decide))
  exact wp_throwS (x := 0) d_Net_route_41 d_Net_route_44 d_Net_route_45 d_Net_route_47 d_Net_route_50 th_Net_47 wE_Net_43 wS_Net_69 rfl ⟨Nat.le_of_ble_eq_true rfl, Nat.le_of_ble_eq_true rfl⟩ ⟨rfl, rfl⟩
set_option maxRecDepth 20000 in
theorem c_Net_routeX {G : Gt} {K N : Nat → Nat} {I : Nat → Nat → Int32} {R : Nat → Nat → Option Nat} {L : Nat → Nat → Int64} {E : Nat → Nat → Int32} {El : Nat → Nat → Int64} {Er : Nat → Nat → Option Nat} {Γ : Gm} {ρ : Nat → Nat} {s : Sa} (hR : RepN Γ ρ K N I R L E El Er s) {x : Nat} {one two mn ot : Int32} (hx : x < 6) {n : Nat} (h1 : 1 ≤ n) (h8 : n ≤ 8) (hrl : (sRt s x).length ≤ 16) (hro : ∀ e ∈ sRt s x, okRt s x e) (hab : ∀ l a b v, sLn s l = some (a, b, v) → a < 6 ∧ b < 6) (hok : (isP (pT one two) n && !(hasE s x (pT one two)) && (lnOrNone s mn x && lnOrNone s ot x && !(decide (mn = ot ∧ mn ≠ -1)))) = false) : CallT G m_Net_route 6 82 [.ref (Γ 0 0), .int (nI x), .int one, .int two, .int (nI n), .int mn, .int ot] (hN K N I R L E El Er) 1 6 0 (fun h' => h' = (hN K N I R L E El Er)) := by
  refine CallS.of (Nat.le_of_ble_eq_true rfl) ?_
  refine wp_aload_n d_Net_route_0 rfl 0 rfl ?_
  refine wp_iload_n d_Net_route_1 rfl 1 rfl ?_
  refine wp_callV (r := 0) d_Net_route_2 (link_V (as := [.int (nI x)]) (rest := []) (r := (R_Net, T_Net, 7)) d_Net_route_2 cal_Net_switchAt wM_Net_39 rfl (hN_o (hR.nt.1) (by decide)) rfl) cal_Net_switchAt (c_Net_switchAt hR hx) (Nat.le_of_ble_eq_true rfl) ⟨Nat.le_of_ble_eq_true rfl, Nat.le_of_ble_eq_true rfl⟩ ?_
  refine wp_astore (lv' := [(7, .ref (Γ 1 x)), (0, .ref (Γ 0 0)), (1, .int (nI x)), (2, .int one), (3, .int two), (4, .int (nI n)), (5, .int mn), (6, .int ot)]) d_Net_route_5 (by decide) rfl ?_
  refine wp_iload_n d_Net_route_7 rfl 3 rfl ?_
  refine wp_i2l d_Net_route_8 rfl ?_
  refine wp_ldc2 (v := 4294967295) d_Net_route_9 wK_Net_59 ?_
  refine wp_land d_Net_route_12 ?_
  refine wp_iload_n d_Net_route_13 rfl 4 rfl ?_
  refine wp_i2l d_Net_route_14 rfl ?_
  refine wp_bipush (v := nI 32) d_Net_route_15 (by decide) ?_
  refine wp_lshl (v := two.toInt64 <<< ((nI 32).toInt64 &&& 63)) d_Net_route_17 rfl ?_
  refine wp_lor d_Net_route_18 ?_
  refine wp_toL (z := lN (pT one two)) (pf64 one two) ?_
  refine wp_lstore (lv' := [(8, .long (lN (pT one two))), (7, .ref (Γ 1 x)), (0, .ref (Γ 0 0)), (1, .int (nI x)), (2, .int one), (3, .int two), (4, .int (nI n)), (5, .int mn), (6, .int ot)]) d_Net_route_19 (by decide) rfl ?_
  refine wp_lload d_Net_route_21 0 rfl ?_
  refine wp_iload d_Net_route_23 6 rfl ?_
  refine wp_callV (r := 0) d_Net_route_25 (link_S (av := [.long (lN (pT one two)), .int (nI n)]) (rest := []) d_Net_route_25 cal_Net_isPrefix wM_Net_61 rfl) cal_Net_isPrefix (c_Net_isPrefix (pT_lt _ _) h1 h8) (Nat.le_of_ble_eq_true rfl) ⟨Nat.le_of_ble_eq_true rfl, Nat.le_of_ble_eq_true rfl⟩ ?_
  refine wp_if_eqB (tgt := 41) d_Net_route_28 (by decide) (fun c28 => ?_) (fun c28 => ?_)
  · exact wp_throwS (x := 0) d_Net_route_41 d_Net_route_44 d_Net_route_45 d_Net_route_47 d_Net_route_50 th_Net_47 wE_Net_43 wS_Net_69 rfl ⟨Nat.le_of_ble_eq_true rfl, Nat.le_of_ble_eq_true rfl⟩ ⟨rfl, rfl⟩
  · refine wp_aload d_Net_route_31 1 rfl ?_
    refine wp_lload d_Net_route_33 0 rfl ?_
    refine wp_callV (r := 0) d_Net_route_35 (link_V (as := [.long (lN (pT one two))]) (rest := []) (r := (R_Swt, T_Swt, 8)) d_Net_route_35 cal_Swt_hasEntry wM_Net_65 rfl (hN_o ((hR.sw x hx).2.1) (by decide)) rfl) cal_Swt_hasEntry (c_Swt_hasEntry hR hx hrl hro (pT_lt _ _)) (Nat.le_of_ble_eq_true rfl) ⟨Nat.le_of_ble_eq_true rfl, Nat.le_of_ble_eq_true rfl⟩ ?_
    refine wp_if_eqB (tgt := 51) d_Net_route_38 (by decide) (fun c38 => ?_) (fun c38 => ?_)
    · refine wp_aload_n d_Net_route_51 rfl 2 rfl ?_
      refine wp_iload_n d_Net_route_52 rfl 3 rfl ?_
      refine wp_iload d_Net_route_53 7 rfl ?_
      refine wp_callV (r := 0) d_Net_route_55 (link_V (as := [.int (nI x), .int mn]) (rest := []) (r := (R_Net, T_Net, 7)) d_Net_route_55 cal_Net_isLineOrNone wM_Net_71 rfl (hN_o (hR.nt.1) (by decide)) rfl) cal_Net_isLineOrNone (c_Net_isLineOrNone hR hab hx mn) (Nat.le_of_ble_eq_true rfl) ⟨Nat.le_of_ble_eq_true rfl, Nat.le_of_ble_eq_true rfl⟩ ?_
      refine wp_if_eqB (tgt := 71) d_Net_route_58 (by decide) (fun c58 => ?_) (fun c58 => ?_)
      · exact wp_throwS (x := 0) d_Net_route_71 d_Net_route_74 d_Net_route_75 d_Net_route_77 d_Net_route_80 th_Net_47 wE_Net_43 wS_Net_75 rfl ⟨Nat.le_of_ble_eq_true rfl, Nat.le_of_ble_eq_true rfl⟩ ⟨rfl, rfl⟩
      · refine wp_aload_n d_Net_route_61 rfl 2 rfl ?_
        refine wp_iload_n d_Net_route_62 rfl 3 rfl ?_
        refine wp_iload d_Net_route_63 8 rfl ?_
        refine wp_callV (r := 0) d_Net_route_65 (link_V (as := [.int (nI x), .int ot]) (rest := []) (r := (R_Net, T_Net, 7)) d_Net_route_65 cal_Net_isLineOrNone wM_Net_71 rfl (hN_o (hR.nt.1) (by decide)) rfl) cal_Net_isLineOrNone (c_Net_isLineOrNone hR hab hx ot) (Nat.le_of_ble_eq_true rfl) ⟨Nat.le_of_ble_eq_true rfl, Nat.le_of_ble_eq_true rfl⟩ ?_
        refine wp_if_neB (tgt := 81) d_Net_route_68 (by decide) (fun c68 => ?_) (fun c68 => ?_)
        · refine wp_iload d_Net_route_81 7 rfl ?_
          refine wp_iload d_Net_route_83 8 rfl ?_
          refine wp_icmp_ne (tgt := 104) d_Net_route_85 (by decide) (fun c85 => ?_) (fun c85 => ?_)
          · exact absurd hok (by rw [c28, c38, c58, c68]; first | (rw [decide_eq_false (fun z => c85 z.1)]; decide) | (rw [decide_eq_false (fun z => z.2 c91)]; decide))
          · refine wp_iload d_Net_route_88 7 rfl ?_
            refine wp_iconst (v := -1) d_Net_route_90 (by decide) ?_
            refine wp_icmp_eq (tgt := 104) d_Net_route_91 (by decide) (fun c91 => ?_) (fun c91 => ?_)
            · exact absurd hok (by rw [c28, c38, c58, c68]; first | (rw [decide_eq_false (fun z => c85 z.1)]; decide) | (rw [decide_eq_false (fun z => z.2 c91)]; decide))
            · exact wp_throwS (x := 0) d_Net_route_94 d_Net_route_97 d_Net_route_98 d_Net_route_100 d_Net_route_103 th_Net_47 wE_Net_43 wS_Net_77 rfl ⟨Nat.le_of_ble_eq_true rfl, Nat.le_of_ble_eq_true rfl⟩ ⟨rfl, rfl⟩
        · exact wp_throwS (x := 0) d_Net_route_71 d_Net_route_74 d_Net_route_75 d_Net_route_77 d_Net_route_80 th_Net_47 wE_Net_43 wS_Net_75 rfl ⟨Nat.le_of_ble_eq_true rfl, Nat.le_of_ble_eq_true rfl⟩ ⟨rfl, rfl⟩
    · exact wp_throwS (x := 0) d_Net_route_41 d_Net_route_44 d_Net_route_45 d_Net_route_47 d_Net_route_50 th_Net_47 wE_Net_43 wS_Net_69 rfl ⟨Nat.le_of_ble_eq_true rfl, Nat.le_of_ble_eq_true rfl⟩ ⟨rfl, rfl⟩
set_option maxRecDepth 20000 in
theorem c_Net_route6 {G : Gt} {K N : Nat → Nat} {I : Nat → Nat → Int32} {R : Nat → Nat → Option Nat} {L : Nat → Nat → Int64} {E : Nat → Nat → Int32} {El : Nat → Nat → Int64} {Er : Nat → Nat → Option Nat} {Γ : Gm} {ρ : Nat → Nat} {s : Sa} (hR : RepN Γ ρ K N I R L E El Er s) {x : Nat} {one two mn ot : Int32} (hx : x < 6) {n : Nat} (h1 : 1 ≤ n) (h8 : n ≤ 8) (hrl : (sRt s x).length ≤ 16) (hro : ∀ e ∈ sRt s x, okRt s x e) (hab : ∀ l a b v, sLn s l = some (a, b, v) → a < 6 ∧ b < 6) (hP : isP (pT one two) n = true) (hH : hasE s x (pT one two) = false) (hA : lnOrNone s mn x = true) (hB : lnOrNone s ot x = true) (hne : ¬ (mn = ot ∧ mn ≠ -1)) (h16 : (sRt s x).length = 16) : CallT G m_Net_route 6 82 [.ref (Γ 0 0), .int (nI x), .int one, .int two, .int (nI n), .int mn, .int ot] (hN K N I R L E El Er) 1 6 1 (fun h' => h' = (hN K N I R L E El Er)) := by
  refine CallS.of (Nat.le_of_ble_eq_true rfl) ?_
  refine wp_aload_n d_Net_route_0 rfl 0 rfl ?_
  refine wp_iload_n d_Net_route_1 rfl 1 rfl ?_
  refine wp_callV (r := 0) d_Net_route_2 (link_V (as := [.int (nI x)]) (rest := []) (r := (R_Net, T_Net, 7)) d_Net_route_2 cal_Net_switchAt wM_Net_39 rfl (hN_o (hR.nt.1) (by decide)) rfl) cal_Net_switchAt (c_Net_switchAt hR hx) (Nat.le_of_ble_eq_true rfl) ⟨Nat.le_of_ble_eq_true rfl, Nat.le_of_ble_eq_true rfl⟩ ?_
  refine wp_astore (lv' := [(7, .ref (Γ 1 x)), (0, .ref (Γ 0 0)), (1, .int (nI x)), (2, .int one), (3, .int two), (4, .int (nI n)), (5, .int mn), (6, .int ot)]) d_Net_route_5 (by decide) rfl ?_
  refine wp_iload_n d_Net_route_7 rfl 3 rfl ?_
  refine wp_i2l d_Net_route_8 rfl ?_
  refine wp_ldc2 (v := 4294967295) d_Net_route_9 wK_Net_59 ?_
  refine wp_land d_Net_route_12 ?_
  refine wp_iload_n d_Net_route_13 rfl 4 rfl ?_
  refine wp_i2l d_Net_route_14 rfl ?_
  refine wp_bipush (v := nI 32) d_Net_route_15 (by decide) ?_
  refine wp_lshl (v := two.toInt64 <<< ((nI 32).toInt64 &&& 63)) d_Net_route_17 rfl ?_
  refine wp_lor d_Net_route_18 ?_
  refine wp_toL (z := lN (pT one two)) (pf64 one two) ?_
  refine wp_lstore (lv' := [(8, .long (lN (pT one two))), (7, .ref (Γ 1 x)), (0, .ref (Γ 0 0)), (1, .int (nI x)), (2, .int one), (3, .int two), (4, .int (nI n)), (5, .int mn), (6, .int ot)]) d_Net_route_19 (by decide) rfl ?_
  refine wp_lload d_Net_route_21 0 rfl ?_
  refine wp_iload d_Net_route_23 6 rfl ?_
  refine wp_callV (r := 0) d_Net_route_25 (link_S (av := [.long (lN (pT one two)), .int (nI n)]) (rest := []) d_Net_route_25 cal_Net_isPrefix wM_Net_61 rfl) cal_Net_isPrefix (CallR.eq (c_Net_isPrefix (pT_lt _ _) h1 h8) (by rw [hP]) rfl) (Nat.le_of_ble_eq_true rfl) ⟨Nat.le_of_ble_eq_true rfl, Nat.le_of_ble_eq_true rfl⟩ ?_
  refine wp_if_eqB (tgt := 41) d_Net_route_28 (by decide) (fun c => absurd c (by decide)) (fun _ => ?_)
  refine wp_aload d_Net_route_31 1 rfl ?_
  refine wp_lload d_Net_route_33 0 rfl ?_
  refine wp_callV (r := 0) d_Net_route_35 (link_V (as := [.long (lN (pT one two))]) (rest := []) (r := (R_Swt, T_Swt, 8)) d_Net_route_35 cal_Swt_hasEntry wM_Net_65 rfl (hN_o ((hR.sw x hx).2.1) (by decide)) rfl) cal_Swt_hasEntry (CallR.eq (c_Swt_hasEntry hR hx hrl hro (pT_lt _ _)) (by rw [hH]) rfl) (Nat.le_of_ble_eq_true rfl) ⟨Nat.le_of_ble_eq_true rfl, Nat.le_of_ble_eq_true rfl⟩ ?_
  refine wp_if_eqB (tgt := 51) d_Net_route_38 (by decide) (fun _ => ?_) (fun c => absurd c (by decide))
  refine wp_aload_n d_Net_route_51 rfl 2 rfl ?_
  refine wp_iload_n d_Net_route_52 rfl 3 rfl ?_
  refine wp_iload d_Net_route_53 7 rfl ?_
  refine wp_callV (r := 0) d_Net_route_55 (link_V (as := [.int (nI x), .int mn]) (rest := []) (r := (R_Net, T_Net, 7)) d_Net_route_55 cal_Net_isLineOrNone wM_Net_71 rfl (hN_o (hR.nt.1) (by decide)) rfl) cal_Net_isLineOrNone (CallR.eq (c_Net_isLineOrNone hR hab hx mn) (by rw [hA]) rfl) (Nat.le_of_ble_eq_true rfl) ⟨Nat.le_of_ble_eq_true rfl, Nat.le_of_ble_eq_true rfl⟩ ?_
  refine wp_if_eqB (tgt := 71) d_Net_route_58 (by decide) (fun c => absurd c (by decide)) (fun _ => ?_)
  refine wp_aload_n d_Net_route_61 rfl 2 rfl ?_
  refine wp_iload_n d_Net_route_62 rfl 3 rfl ?_
  refine wp_iload d_Net_route_63 8 rfl ?_
  refine wp_callV (r := 0) d_Net_route_65 (link_V (as := [.int (nI x), .int ot]) (rest := []) (r := (R_Net, T_Net, 7)) d_Net_route_65 cal_Net_isLineOrNone wM_Net_71 rfl (hN_o (hR.nt.1) (by decide)) rfl) cal_Net_isLineOrNone (CallR.eq (c_Net_isLineOrNone hR hab hx ot) (by rw [hB]) rfl) (Nat.le_of_ble_eq_true rfl) ⟨Nat.le_of_ble_eq_true rfl, Nat.le_of_ble_eq_true rfl⟩ ?_
  refine wp_if_neB (tgt := 81) d_Net_route_68 (by decide) (fun _ => ?_) (fun c => absurd c (by decide))
  refine wp_iload d_Net_route_81 7 rfl ?_
  refine wp_iload d_Net_route_83 8 rfl ?_
  refine wp_icmp_ne (tgt := 104) d_Net_route_85 (by decide) (fun c85 => ?_) (fun c85 => ?_)
  · refine wp_aload d_Net_route_104 1 rfl ?_
    refine wn_get_Swt d_Net_route_106 ((hR.sw x hx).2.1) 3 (by decide) wF_Net_79 rfl ?_
    refine wp_toI (z := (nI ((sRt s x).length))) ((hR.sw x hx).2.2.2.2.2.2.2.2.2.2.2.2.1) ?_
    refine wp_bipush (v := nI 16) d_Net_route_109 (by decide) ?_
    refine wp_ltN (tgt := 124) d_Net_route_111 (by decide) (by omega) (by omega) (fun c111 => ?_) (fun c111 => ?_)
    · exact absurd c111 (by omega)
    · exact wp_throwS (x := 1) d_Net_route_114 d_Net_route_117 d_Net_route_118 d_Net_route_120 d_Net_route_123 th_Net_86 wE_Net_82 wS_Net_84 rfl ⟨Nat.le_of_ble_eq_true rfl, Nat.le_of_ble_eq_true rfl⟩ ⟨rfl, rfl⟩
  · refine wp_iload d_Net_route_88 7 rfl ?_
    refine wp_iconst (v := -1) d_Net_route_90 (by decide) ?_
    refine wp_icmp_eq (tgt := 104) d_Net_route_91 (by decide) (fun c91 => ?_) (fun c91 => ?_)
    · refine wp_aload d_Net_route_104 1 rfl ?_
      refine wn_get_Swt d_Net_route_106 ((hR.sw x hx).2.1) 3 (by decide) wF_Net_79 rfl ?_
      refine wp_toI (z := (nI ((sRt s x).length))) ((hR.sw x hx).2.2.2.2.2.2.2.2.2.2.2.2.1) ?_
      refine wp_bipush (v := nI 16) d_Net_route_109 (by decide) ?_
      refine wp_ltN (tgt := 124) d_Net_route_111 (by decide) (by omega) (by omega) (fun c111 => ?_) (fun c111 => ?_)
      · exact absurd c111 (by omega)
      · exact wp_throwS (x := 1) d_Net_route_114 d_Net_route_117 d_Net_route_118 d_Net_route_120 d_Net_route_123 th_Net_86 wE_Net_82 wS_Net_84 rfl ⟨Nat.le_of_ble_eq_true rfl, Nat.le_of_ble_eq_true rfl⟩ ⟨rfl, rfl⟩
    · exact absurd ⟨c85, c91⟩ hne
theorem isP_lt {T n : Nat} (h : isP T n = true) : T < 2 ^ (8 * n) := by
  unfold isP at h
  exact of_decide_eq_true (Bool.and_eq_true_iff.mp h).1
set_option maxRecDepth 20000 in
theorem c_Net_route1 {G : Gt} {K N : Nat → Nat} {I : Nat → Nat → Int32} {R : Nat → Nat → Option Nat} {L : Nat → Nat → Int64} {E : Nat → Nat → Int32} {El : Nat → Nat → Int64} {Er : Nat → Nat → Option Nat} {Γ : Gm} {ρ : Nat → Nat} {s : Sa} (hR : RepN Γ ρ K N I R L E El Er s) {n0 : Nat} (hV : Inv n0 s) {x : Nat} {one two mn ot : Int32} (hx : x < 6) {n : Nat} (h1 : 1 ≤ n) (h8 : n ≤ 8) (hrl : (sRt s x).length ≤ 16) (hro : ∀ e ∈ sRt s x, okRt s x e) (hab : ∀ l a b v, sLn s l = some (a, b, v) → a < 6 ∧ b < 6) (hP : isP (pT one two) n = true) (hH : hasE s x (pT one two) = false) (hA : lnOrNone s mn x = true) (hB : lnOrNone s ot x = true) (hne : ¬ (mn = ot ∧ mn ≠ -1)) (hl16 : (sRt s x).length < 16) : CallE G m_Net_route 2 31 [.ref (Γ 0 0), .int (nI x), .int one, .int two, .int (nI n), .int mn, .int ot] (hN K N I R L E El Er) (0 + 1) (0 + 4) none (NetOK (Γ 0 0) (wRt s (va_up (sRt s) x (sRt s x ++ [(pfx one two n, i2o mn, i2o ot)])))) := by
  have hD := hR.df
  refine CallS.of (Nat.le_of_ble_eq_true rfl) ?_
  refine wp_aload_n d_Net_route_0 rfl 0 rfl ?_
  refine wp_iload_n d_Net_route_1 rfl 1 rfl ?_
  refine wp_callV (r := 0) d_Net_route_2 (link_V (as := [.int (nI x)]) (rest := []) (r := (R_Net, T_Net, 7)) d_Net_route_2 cal_Net_switchAt wM_Net_39 rfl (hN_o (hR.nt.1) (by decide)) rfl) cal_Net_switchAt (c_Net_switchAt hR hx) (Nat.le_of_ble_eq_true rfl) ⟨Nat.le_of_ble_eq_true rfl, Nat.le_of_ble_eq_true rfl⟩ ?_
  refine wp_astore (lv' := [(7, .ref (Γ 1 x)), (0, .ref (Γ 0 0)), (1, .int (nI x)), (2, .int one), (3, .int two), (4, .int (nI n)), (5, .int mn), (6, .int ot)]) d_Net_route_5 (by decide) rfl ?_
  refine wp_iload_n d_Net_route_7 rfl 3 rfl ?_
  refine wp_i2l d_Net_route_8 rfl ?_
  refine wp_ldc2 (v := 4294967295) d_Net_route_9 wK_Net_59 ?_
  refine wp_land d_Net_route_12 ?_
  refine wp_iload_n d_Net_route_13 rfl 4 rfl ?_
  refine wp_i2l d_Net_route_14 rfl ?_
  refine wp_bipush (v := nI 32) d_Net_route_15 (by decide) ?_
  refine wp_lshl (v := two.toInt64 <<< ((nI 32).toInt64 &&& 63)) d_Net_route_17 rfl ?_
  refine wp_lor d_Net_route_18 ?_
  refine wp_toL (z := lN (pT one two)) (pf64 one two) ?_
  refine wp_lstore (lv' := [(8, .long (lN (pT one two))), (7, .ref (Γ 1 x)), (0, .ref (Γ 0 0)), (1, .int (nI x)), (2, .int one), (3, .int two), (4, .int (nI n)), (5, .int mn), (6, .int ot)]) d_Net_route_19 (by decide) rfl ?_
  refine wp_lload d_Net_route_21 0 rfl ?_
  refine wp_iload d_Net_route_23 6 rfl ?_
  refine wp_callV (r := 0) d_Net_route_25 (link_S (av := [.long (lN (pT one two)), .int (nI n)]) (rest := []) d_Net_route_25 cal_Net_isPrefix wM_Net_61 rfl) cal_Net_isPrefix (CallR.eq (c_Net_isPrefix (pT_lt _ _) h1 h8) (by rw [hP]) rfl) (Nat.le_of_ble_eq_true rfl) ⟨Nat.le_of_ble_eq_true rfl, Nat.le_of_ble_eq_true rfl⟩ ?_
  refine wp_if_eqB (tgt := 41) d_Net_route_28 (by decide) (fun c => absurd c (by decide)) (fun _ => ?_)
  refine wp_aload d_Net_route_31 1 rfl ?_
  refine wp_lload d_Net_route_33 0 rfl ?_
  refine wp_callV (r := 0) d_Net_route_35 (link_V (as := [.long (lN (pT one two))]) (rest := []) (r := (R_Swt, T_Swt, 8)) d_Net_route_35 cal_Swt_hasEntry wM_Net_65 rfl (hN_o ((hR.sw x hx).2.1) (by decide)) rfl) cal_Swt_hasEntry (CallR.eq (c_Swt_hasEntry hR hx hrl hro (pT_lt _ _)) (by rw [hH]) rfl) (Nat.le_of_ble_eq_true rfl) ⟨Nat.le_of_ble_eq_true rfl, Nat.le_of_ble_eq_true rfl⟩ ?_
  refine wp_if_eqB (tgt := 51) d_Net_route_38 (by decide) (fun _ => ?_) (fun c => absurd c (by decide))
  refine wp_aload_n d_Net_route_51 rfl 2 rfl ?_
  refine wp_iload_n d_Net_route_52 rfl 3 rfl ?_
  refine wp_iload d_Net_route_53 7 rfl ?_
  refine wp_callV (r := 0) d_Net_route_55 (link_V (as := [.int (nI x), .int mn]) (rest := []) (r := (R_Net, T_Net, 7)) d_Net_route_55 cal_Net_isLineOrNone wM_Net_71 rfl (hN_o (hR.nt.1) (by decide)) rfl) cal_Net_isLineOrNone (CallR.eq (c_Net_isLineOrNone hR hab hx mn) (by rw [hA]) rfl) (Nat.le_of_ble_eq_true rfl) ⟨Nat.le_of_ble_eq_true rfl, Nat.le_of_ble_eq_true rfl⟩ ?_
  refine wp_if_eqB (tgt := 71) d_Net_route_58 (by decide) (fun c => absurd c (by decide)) (fun _ => ?_)
  refine wp_aload_n d_Net_route_61 rfl 2 rfl ?_
  refine wp_iload_n d_Net_route_62 rfl 3 rfl ?_
  refine wp_iload d_Net_route_63 8 rfl ?_
  refine wp_callV (r := 0) d_Net_route_65 (link_V (as := [.int (nI x), .int ot]) (rest := []) (r := (R_Net, T_Net, 7)) d_Net_route_65 cal_Net_isLineOrNone wM_Net_71 rfl (hN_o (hR.nt.1) (by decide)) rfl) cal_Net_isLineOrNone (CallR.eq (c_Net_isLineOrNone hR hab hx ot) (by rw [hB]) rfl) (Nat.le_of_ble_eq_true rfl) ⟨Nat.le_of_ble_eq_true rfl, Nat.le_of_ble_eq_true rfl⟩ ?_
  refine wp_if_neB (tgt := 81) d_Net_route_68 (by decide) (fun _ => ?_) (fun c => absurd c (by decide))
  refine wp_iload d_Net_route_81 7 rfl ?_
  refine wp_iload d_Net_route_83 8 rfl ?_
  refine wp_icmp_ne (tgt := 104) d_Net_route_85 (by decide) (fun c85 => ?_) (fun c85 => ?_)
  · refine wp_aload d_Net_route_104 1 rfl ?_
    refine wn_get_Swt d_Net_route_106 ((hR.sw x hx).2.1) 3 (by decide) wF_Net_79 rfl ?_
    refine wp_toI (z := (nI ((sRt s x).length))) ((hR.sw x hx).2.2.2.2.2.2.2.2.2.2.2.2.1) ?_
    refine wp_bipush (v := nI 16) d_Net_route_109 (by decide) ?_
    refine wp_ltN (tgt := 124) d_Net_route_111 (by decide) (by omega) (by omega) (fun c111 => ?_) (fun c111 => ?_)
    · refine wp_aload d_Net_route_124 1 rfl ?_
      refine wn_new_Ent d_Net_route_126 wC_Net_87 (hD) (fun q1 hq1 => ?_)
      refine wp_dup d_Net_route_129 rfl ?_
      refine wp_lload d_Net_route_130 0 rfl ?_
      refine wp_iload d_Net_route_132 6 rfl ?_
      refine wp_iload d_Net_route_134 7 rfl ?_
      refine wp_iload d_Net_route_136 8 rfl ?_
      refine wp_callU (r := 2) d_Net_route_138 (link_I (as := [.long (lN (pT one two)), .int (nI n), .int mn, .int ot]) (rest := [.ref q1, .ref (Γ 1 x)]) d_Net_route_138 cal_Ent_init rfl wM_Net_89 rfl) cal_Ent_init (c_Ent_init (kat _ _ _)) (Nat.le_of_ble_eq_true rfl) ⟨Nat.le_of_ble_eq_true rfl, Nat.le_of_ble_eq_true rfl⟩ ?_
      refine wp_callU (r := 0) d_Net_route_141 (link_V (as := [.ref q1]) (rest := []) (r := (R_Swt, T_Swt, 8)) d_Net_route_141 cal_Swt_addEntry wM_Net_92 rfl (hN_o (kup hq1 ((hR.sw x hx).2.1)) (by decide)) rfl) cal_Swt_addEntry (c_Swt_addEntry (kup hq1 (hR.sw x hx).2.1) (kupA hq1 (hR.sw x hx).2.2.2.2.2.2.1) (kat _ _ _) (hR.sw x hx).2.2.2.1 (by rw [u2_ne _ _ (by decide), u2_ne _ _ (by decide), u2_ne _ _ (by decide)]; exact (hR.sw x hx).2.2.2.2.2.2.2.2.2.2.2.2.1) (hR.sw x hx).2.2.2.2.2.2.2.1 hl16) (Nat.le_of_ble_eq_true rfl) ⟨Nat.le_of_ble_eq_true rfl, Nat.le_of_ble_eq_true rfl⟩ ?_
      exact wp_vret d_Net_route_144 rfl ⟨rfl, rt_new hR hV hx hq1 hl16 (by rw [pfx_leN one two h8 (isP_lt hP)]) (by show nI n = nI (pfx one two n).length; unfold pfx; rw [List.length_map, List.length_range]) (i2o_o hA) (i2o_o hB)⟩
    · exact absurd c111 (by omega)
  · refine wp_iload d_Net_route_88 7 rfl ?_
    refine wp_iconst (v := -1) d_Net_route_90 (by decide) ?_
    refine wp_icmp_eq (tgt := 104) d_Net_route_91 (by decide) (fun c91 => ?_) (fun c91 => ?_)
    · refine wp_aload d_Net_route_104 1 rfl ?_
      refine wn_get_Swt d_Net_route_106 ((hR.sw x hx).2.1) 3 (by decide) wF_Net_79 rfl ?_
      refine wp_toI (z := (nI ((sRt s x).length))) ((hR.sw x hx).2.2.2.2.2.2.2.2.2.2.2.2.1) ?_
      refine wp_bipush (v := nI 16) d_Net_route_109 (by decide) ?_
      refine wp_ltN (tgt := 124) d_Net_route_111 (by decide) (by omega) (by omega) (fun c111 => ?_) (fun c111 => ?_)
      · refine wp_aload d_Net_route_124 1 rfl ?_
        refine wn_new_Ent d_Net_route_126 wC_Net_87 (hD) (fun q2 hq2 => ?_)
        refine wp_dup d_Net_route_129 rfl ?_
        refine wp_lload d_Net_route_130 0 rfl ?_
        refine wp_iload d_Net_route_132 6 rfl ?_
        refine wp_iload d_Net_route_134 7 rfl ?_
        refine wp_iload d_Net_route_136 8 rfl ?_
        refine wp_callU (r := 2) d_Net_route_138 (link_I (as := [.long (lN (pT one two)), .int (nI n), .int mn, .int ot]) (rest := [.ref q2, .ref (Γ 1 x)]) d_Net_route_138 cal_Ent_init rfl wM_Net_89 rfl) cal_Ent_init (c_Ent_init (kat _ _ _)) (Nat.le_of_ble_eq_true rfl) ⟨Nat.le_of_ble_eq_true rfl, Nat.le_of_ble_eq_true rfl⟩ ?_
        refine wp_callU (r := 0) d_Net_route_141 (link_V (as := [.ref q2]) (rest := []) (r := (R_Swt, T_Swt, 8)) d_Net_route_141 cal_Swt_addEntry wM_Net_92 rfl (hN_o (kup hq2 ((hR.sw x hx).2.1)) (by decide)) rfl) cal_Swt_addEntry (c_Swt_addEntry (kup hq2 (hR.sw x hx).2.1) (kupA hq2 (hR.sw x hx).2.2.2.2.2.2.1) (kat _ _ _) (hR.sw x hx).2.2.2.1 (by rw [u2_ne _ _ (by decide), u2_ne _ _ (by decide), u2_ne _ _ (by decide)]; exact (hR.sw x hx).2.2.2.2.2.2.2.2.2.2.2.2.1) (hR.sw x hx).2.2.2.2.2.2.2.1 hl16) (Nat.le_of_ble_eq_true rfl) ⟨Nat.le_of_ble_eq_true rfl, Nat.le_of_ble_eq_true rfl⟩ ?_
        exact wp_vret d_Net_route_144 rfl ⟨rfl, rt_new hR hV hx hq2 hl16 (by rw [pfx_leN one two h8 (isP_lt hP)]) (by show nI n = nI (pfx one two n).length; unfold pfx; rw [List.length_map, List.length_range]) (i2o_o hA) (i2o_o hB)⟩
      · exact absurd c111 (by omega)
    · exact absurd ⟨c85, c91⟩ hne
theorem inZ_18 {z : Int32} (h : inZ z (nI 1) (nI 8) = true) : ∃ n, 1 ≤ n ∧ n ≤ 8 ∧ z = nI n := by
  have h0 : inZ z (nI 0) (nI 8) = true := by
    unfold inZ at h ⊢
    have := of_decide_eq_true h
    exact decide_eq_true ⟨Int32.le_trans (by decide) this.1, this.2⟩
  obtain ⟨n, hn, rfl⟩ := inZ_of (by decide) h0
  refine ⟨n, ?_, hn, rfl⟩
  rcases Nat.eq_zero_or_pos n with rfl | h1
  · exact absurd h (by decide)
  · exact h1
theorem n_Net_route {G : Gt} {K N : Nat → Nat} {I : Nat → Nat → Int32} {R : Nat → Nat → Option Nat} {L : Nat → Nat → Int64} {E : Nat → Nat → Int32} {El : Nat → Nat → Int64} {Er : Nat → Nat → Option Nat} {Γ : Gm} {ρ : Nat → Nat} {s : Sa} (hR : RepN Γ ρ K N I R L E El Er s) {n0 : Nat} (hV : Inv n0 s) (x one two ln mn ot : Int32) : CallN G m_Net_route 7 95 [.ref (Γ 0 0), .int x, .int one, .int two, .int ln, .int mn, .int ot] (hN K N I R L E El Er) 1 6 (stRoute s x one two ln mn ot) true (Γ 0 0) := by
  unfold stRoute rtOK swB
  cases hx : inZ x (nI 0) (nI 5) with
  | false => exact CallN.ofT (c_Net_routeSX hR hx) (by decide) (by decide) (by decide) (by decide) rfl hR.okT
  | true =>
    obtain ⟨j, hj, rfl⟩ := inZ_of (by decide) hx
    have hj6 : j < 6 := by omega
    cases hz : inZ ln (nI 1) (nI 8) with
    | false => exact CallN.ofT (c_Net_routeLX hR hj6 hz) (by decide) (by decide) (by decide) (by decide) rfl hR.okT
    | true =>
      obtain ⟨n, h1, h8, rfl⟩ := inZ_18 hz
      rw [nN_nI (by omega), nN_nI (by omega), Bool.true_and, Bool.true_and]
      have hrl := (hV.B.CS j).2.1
      have hro := (hV.B.CS j).2.2.1
      have hab := (hV.B.CS j).1
      rw [← isP_eq one two h1 h8]
      cases hP : isP (pT one two) n with
      | false => exact CallN.ofT (c_Net_routeX hR hj6 h1 h8 hrl hro hab (mn := mn) (ot := ot) (by rw [hP]; rfl)) (by decide) (by decide) (by decide) (by decide) rfl hR.okT
      | true =>
        rw [← hasE_eq one two h8 (by rw [← isP_eq one two h1 h8]; exact hP) (isP_lt hP) hro, Bool.true_and]
        by_cases hok : (isP (pT one two) n && !(hasE s  j (pT one two)) && (lnOrNone s mn  j && lnOrNone s ot  j && !(decide (mn = ot ∧ mn ≠ -1)))) = true
        · rw [hP, Bool.true_and, Bool.and_eq_true_iff, Bool.and_eq_true_iff, Bool.and_eq_true_iff, Bool.not_eq_true', Bool.not_eq_true'] at hok
          obtain ⟨hH, ⟨hA, hB⟩, hne⟩ := hok
          rw [hH, hA, hB, hne]
          rw [if_pos (by decide)]
          have hne2 := of_decide_eq_false hne
          by_cases h16 : (sRt s j).length = 16
          · rw [if_pos h16]
            exact CallN.ofT (c_Net_route6 hR hj6 h1 h8 hrl hro hab hP hH hA hB hne2 h16) (by decide) (by decide) (by decide) (by decide) rfl hR.okT
          · rw [if_neg h16]
            exact CallN.ofE (c_Net_route1 hR hV hj6 h1 h8 hrl hro hab hP hH hA hB hne2 (by omega)) (by decide) (by decide) (by decide) (by decide) rfl (fun _ q => q)
        · rw [Bool.not_eq_true] at hok
          rw [if_neg (fun z => by
            rw [hP, Bool.true_and] at hok
            rw [Bool.and_eq_true_iff] at z
            rw [z.1, z.2] at hok
            exact absurd hok (by decide))]
          exact CallN.ofT (c_Net_routeX hR hj6 h1 h8 hrl hro hab hok) (by decide) (by decide) (by decide) (by decide) rfl hR.okT
end Cls32
