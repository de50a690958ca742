section Cls35
theorem ln_new {K N : Nat → Nat} {I : Nat → Nat → Int32} {R : Nat → Nat → Option Nat} {L : Nat → Nat → Int64} {E : Nat → Nat → Int32} {El : Nat → Nat → Int64} {Er : Nat → Nat → Option Nat} {Γ : Gm} {ρ : Nat → Nat} {s : Sa} (hR : RepN Γ ρ K N I R L E El Er s) {n0 : Nat} (hV : Inv n0 s) {l q a b c0 c1 : Nat} {a0 a1 : Nat → Nat → Nat} (hl : l < 8) (hn : sLn s l = none) (ha : a < 6) (hb : b < 6) (hab : a ≠ b) (hF : LnF l q a b c0 c1 a0 a1 ρ K N I R Er) (hq : ρ q = 60000 + l) : NetOK (Γ 0 0) (wLn s (va_up (sLn s) l (some (a, b, true)))) (hN K N (u2 (u2 I 53 (Γ 1 a) (nI (degree s a + 1))) 53 (Γ 1 b) (nI (degree s b + 1))) R L E El (u2r Er (Γ 0 5) l (some q))) := by
  have hE := gmL_E (Γ := Γ) (q := q) (c0 := c0) (c1 := c1) (a0 := a0) (a1 := a1) hn
  have g6 : gmL Γ l q c0 c1 a0 a1 6 l = q := by
    unfold gmL
    rw [if_pos rfl, if_pos rfl]
  have g7 : gmL Γ l q c0 c1 a0 a1 7 (2 * l) = c0 := by
    unfold gmL
    rw [if_neg (by decide), if_pos rfl, if_pos rfl]
  have g7' : gmL Γ l q c0 c1 a0 a1 7 (2 * l + 1) = c1 := by
    unfold gmL
    rw [if_neg (by decide), if_pos rfl, if_neg (by omega), if_pos rfl]
  have gc := fun c hc => gmL_c (Γ := Γ) hF (c := c) hc
  revert hE g6 g7 g7' gc
  generalize gmL Γ l q c0 c1 a0 a1 = Γ'
  intro hE g6 g7 g7' gc
  have h := hR.gm hV hE
  have z0 : Γ' 0 = Γ 0 := hE.1 0 (by decide)
  have z1 : Γ' 1 = Γ 1 := hE.1 1 (by decide)
  rw [← z0, ← z1]
  refine ⟨Γ', ρ, _, _, _, _, _, _, _, _, rfl, ?_, rfl⟩
  have ka := (h.sw a ha).2.1
  have kb := (h.sw b hb).2.1
  have k5 := h.nt.2.2.2.2.2.2.2.2.2.2.1
  have F : Fr0 ρ ρ K N K N I (u2 (u2 I 53 (Γ' 1 a) (nI (degree s a + 1))) 53 (Γ' 1 b) (nI (degree s b + 1))) R R L L E E El El Er (u2r Er (Γ' 0 5) l (some q)) [53] [] [] [] [Γ' 0 5] := ⟨fun _ _ => ⟨rfl, rfl, rfl⟩, fun g p hg _ => by rw [u2_ne _ _ (fun z => hg (List.mem_singleton.mpr z)), u2_ne _ _ (fun z => hg (List.mem_singleton.mpr z))], fun _ _ _ _ => rfl, fun _ _ _ => rfl, fun _ _ _ => rfl, fun _ _ _ => rfl, fun p hp _ => u2r_ne _ _ (fun z => hp (List.mem_singleton.mpr z))⟩
  have hD : DF K (u2 (u2 I 53 (Γ' 1 a) (nI (degree s a + 1))) 53 (Γ' 1 b) (nI (degree s b + 1))) R L E El (u2r Er (Γ' 0 5) l (some q)) := DF.pEr (DF.pI (DF.pI h.df (by omega)) (by omega)) (by omega)
  have mE : ∀ p t, K p = 20 + t → t ≠ 9 → p ∉ [Γ' 0 5] := fun p t hp ht hm => by rw [List.mem_singleton.mp hm] at hp; omega
  have so : ∀ l2, l2 ≠ l → sLn (wLn s (va_up (sLn s) l (some (a, b, true)))) l2 = sLn s l2 := fun l2 h2 => if_neg h2
  have hch : ∀ c, c / 2 = l → sCh s c = ch0 := fun c hc => (hV.2.2.1.2.2.2.1 c).2.2.2.2.2.2.2.2.2.2.2 (by rw [hc]; exact hn)
  have hci := h.ci.fr F (fun g h1 h2 hm => by simp only [List.mem_cons, List.not_mem_nil, or_false] at hm; omega) (fun _ _ _ => List.not_mem_nil)
  have hqu := h.qu.fr F (fun c hc hs => by have := (h.ci c hc hs).2.2.2.2.2.1; omega) (by decide) (by decide) (fun c hc hs => mE _ 4 (h.ci c hc hs).2.2.2.2.2.1 (by decide))
  have hri := h.ri.fr F (by decide) (by decide) (fun c hc hs => by
    obtain ⟨-, -, -, -, ⟨p5, f5, -⟩, ⟨p6, f6, -⟩⟩ := h.ri c hc hs
    have a5 := f5.2.1
    have a6 := f6.2.1
    exact ⟨mE _ 5 a5 (by decide), mE _ 5 a6 (by decide)⟩)
  have iF : ∀ p g, K p ≠ 0 → g ≠ 53 → (u2 (u2 I 53 (Γ' 1 a) (nI (degree s a + 1))) 53 (Γ' 1 b) (nI (degree s b + 1))) g p = I g p := fun p g hp hg => F.2.1 g p (fun hm => hg (List.mem_singleton.mp hm)) hp
  refine ⟨hD, h.nt.fr F (by decide) (fun _ _ => List.not_mem_nil), h.dr.fr F (by decide) List.not_mem_nil, fun y hy => ?_, h.en.fr F (fun x hx => by have := (h.sw x hx).2.2.2.2.2.2.1; omega) (fun g h1 h2 hm => by simp only [List.mem_cons, List.not_mem_nil, or_false] at hm; omega) (fun x hx => mE _ 6 (h.sw x hx).2.2.2.2.2.2.1 (by decide)), h.dk.fr F (fun x hx => by have := (h.sw x hx).2.2.2.2.2.2.2.2.2.1; omega) (fun y hy => mE _ 7 (h.sw y hy).2.2.2.2.2.2.2.2.2.1 (by decide)), h.hl.fr F (by decide) (by decide), fun l2 hl2 => ?_, fun c hc hs => ?_, fun c hc hs p hp => ?_, fun c hc hs => ?_, h.mg.fr F (by have := h.nt.2.2.2.2.2.2.2.2.2.2.2.2.1; omega) (by decide) (by decide) (fun _ _ => ⟨List.not_mem_nil, List.not_mem_nil⟩) (mE _ 7 h.nt.2.2.2.2.2.2.2.2.2.2.2.2.1 (by decide))⟩
  · obtain ⟨e0, b1, b2, c1, c2, c3, d1, d2, d3, e1, e2, e3, f1, f2, f3, f4, f5⟩ := h.sw y hy
    have k : K (Γ' 1 y) ≠ 0 := by omega
    refine ⟨F.er (mE _ 8 h.nt.2.2.2.2.2.2.2.2.1 (by decide)) (by have := h.nt.2.2.2.2.2.2.2.2.1; omega) e0, b1, b2, c1, c2, c3, d1, d2, d3, e1, e2, e3, F.i (by decide) k f1, F.i (by decide) k f2, ?_, F.i (by decide) k f4, F.i (by decide) k f5⟩
    rw [deg_new hl hn]
    by_cases hyb : y = b
    · subst hyb
      rw [u2_at, if_pos rfl, if_pos (Or.inr rfl)]
    · rw [u2_q _ _ (sw_ne h hb hy hyb)]
      by_cases hya : y = a
      · subst hya
        rw [u2_at, if_pos rfl, if_pos (Or.inl rfl)]
      · rw [u2_q _ _ (sw_ne h ha hy hya), if_neg (by omega), f3]
        rfl
  · by_cases hll : l2 = l
    · subst hll
      have e : sLn (wLn s (va_up (sLn s) l2 (some (a, b, true)))) l2 = some (a, b, true) := if_pos rfl
      refine ⟨fun z => (by rw [e] at z; cases z), fun a' b' v' hv' => ?_⟩
      rw [e] at hv'
      cases hv'
      obtain ⟨k1, i1, i2, r1, r2, i3, -⟩ := hF
      rw [g6, g7, g7']
      exact ⟨by rw [u2r_at, if_pos rfl], k1, hq, (iF q 38 (by omega) (by decide)).trans i1, (iF q 39 (by omega) (by decide)).trans i2, r1, r2, (iF q 42 (by omega) (by decide)).trans i3⟩
    · rw [so l2 hll, u2r_at, if_neg hll]
      refine ⟨(h.li l2 hl2).1, fun a' b' v' hv' => ?_⟩
      obtain ⟨x1, x2, x3, x4, x5, x6, x7, x8⟩ := (h.li l2 hl2).2 a' b' v' hv'
      have k : K (Γ' 6 l2) ≠ 0 := by omega
      exact ⟨x1, x2, x3, (iF _ 38 k (by decide)).trans x4, (iF _ 39 k (by decide)).trans x5, x6, x7, (iF _ 42 k (by decide)).trans x8⟩
  · by_cases hcl : c / 2 = l
    · obtain ⟨cc, aa, hC, hr, t7, tk, t9⟩ := gc c hcl
      obtain ⟨x1, y1, y2, y3, w1, w2, d1, d2, d3, d4, -⟩ := hC
      have k : K cc ≠ 0 := by omega
      have ho : sCh s (otC c) = ch0 := hch _ (by unfold otC; omega)
      show K (Γ' 7 c) = _ ∧ _ ∧ _ ∧ _ ∧ _ ∧ _ ∧ _ ∧ _ = nI ((cSent (sCh s c)).length + 1) ∧ _ = nI (cExp (sCh s c)) ∧ _ = nI (cPut (sCh s c)) ∧ _ = akI (cAsk (sCh s (otC c)))
      rw [t7, tk 8 (by decide) (by decide) (by decide), tk 10 (by decide) (by decide) (by decide), tk 12 (by decide) (by decide) (by decide), hch c hcl, ho]
      exact ⟨x1, hr, y1, y2, y3, w1, w2, (iF cc 10 k (by decide)).trans d1, (iF cc 11 k (by decide)).trans d2, (iF cc 12 k (by decide)).trans d3, (iF cc 13 k (by decide)).trans d4⟩
    · exact hci c hc (by rw [so _ hcl] at hs; exact hs)
  · by_cases hcl : c / 2 = l
    · obtain ⟨cc, aa, hC, hr, t7, tk, t9⟩ := gc c hcl
      have w1 := hC.2.2.2.2.1
      obtain ⟨p1, p2, p3, p4, p5, p6⟩ := hC.2.2.2.2.2.2.2.2.2.2.1 p hp
      have eq0 : quF (wLn s (va_up (sLn s) l (some (a, b, true)))) c p = [] := by
        unfold quF
        refine List.filter_eq_nil_iff.mpr (fun x hx hz => ?_)
        have o := (hV.2.2.1.2.2.1 x hx).2.1
        rw [Bool.and_eq_true_iff, beq_iff_eq] at hz
        have := o (by omega)
        rw [hz.1, hcl, hn] at this
        cases this
      rw [tk 8 (by decide) (by decide) (by decide), t9 p hp, eq0]
      have k8 : aa 8 0 ≠ Γ' 0 5 := fun z => by rw [z] at w1; omega
      refine ⟨by rw [u2r_ne _ _ k8]; exact p1, p2, [], ⟨p3, p4, p5, (iF _ 20 (by omega) (by decide)).trans p6, List.nodup_nil, fun x hx => (by cases hx), fun i x hx => (by cases hx)⟩, rfl, fun x hx => (by cases hx)⟩
    · exact hqu c hc (by rw [so _ hcl] at hs; exact hs) p hp
  · by_cases hcl : c / 2 = l
    · obtain ⟨cc, aa, hC, hr, t7, tk, t9⟩ := gc c hcl
      obtain ⟨m1, m2, m3, m4, f1, f2⟩ := hC.2.2.2.2.2.2.2.2.2.2.2
      have gF : ∀ f r cap, FS K N I R Er f r cap [] → FS K N (u2 (u2 I 53 (Γ' 1 a) (nI (degree s a + 1))) 53 (Γ' 1 b) (nI (degree s b + 1))) R (u2r Er (Γ' 0 5) l (some q)) f r cap [] := fun f r cap hf => by
        obtain ⟨y1, y2, y3, y4, y5, st, x1, x2, x3, x4, x5⟩ := hf
        exact ⟨y1, y2, y3, y4, y5, st, (iF f 36 (by omega) (by decide)).trans x1, x2, (iF f 37 (by omega) (by decide)).trans x3, x4, fun k x hx => (by cases hx)⟩
      show _ ∧ _ ∧ _ ∧ _ ∧ RgF Γ' K N _ R _ _ _ 20 (cSent (sCh s c)) (kpF (sCh s c)) ∧ RgF Γ' K N _ R _ _ _ 200 (cSent (sCh s c)) (cWire (sCh s c))
      rw [tk 10 (by decide) (by decide) (by decide), tk 11 (by decide) (by decide) (by decide), tk 12 (by decide) (by decide) (by decide), tk 13 (by decide) (by decide) (by decide), hch c hcl]
      exact ⟨m1, m2, m3, m4, ⟨[], gF _ _ _ f1, rfl, fun x hx => (by cases hx)⟩, ⟨[], gF _ _ _ f2, rfl, fun x hx => (by cases hx)⟩⟩
    · exact hri c hc (by rw [so _ hcl] at hs; exact hs)
theorem RepN.gw {ρ K N : Nat → Nat} {I : Nat → Nat → Int32} {R : Nat → Nat → Option Nat} {L : Nat → Nat → Int64} {E : Nat → Nat → Int32} {El : Nat → Nat → Int64} {Er : Nat → Nat → Option Nat} {ρ' K' N' : Nat → Nat} {I' : Nat → Nat → Int32} {R' : Nat → Nat → Option Nat} {L' : Nat → Nat → Int64} {E' : Nat → Nat → Int32} {El' : Nat → Nat → Int64} {Er' : Nat → Nat → Option Nat} {Γ : Gm} {s : Sa} {q : Nat} (h : RepN Γ ρ K N I R L E El Er s) (F : Gw q ρ K N I R L E El Er ρ' K' N' I' R' L' E' El' Er') (hq : K q = 0) : RepN Γ ρ' K' N' I' R' L' E' El' Er' s :=
  h.grow ⟨fun p hp => ⟨(F.1 p hp).1, (F.1 p hp).2.1, (F.1 p hp).2.2.1⟩, fun g p _ hp => (F.2.1 p hp (dne2 hq hp) g).1, fun g p _ hp => (F.2.1 p hp (dne2 hq hp) g).2.1, fun g p hp => (F.2.1 p hp (dne2 hq hp) g).2.2, fun p _ hp => (F.1 p hp).2.2.2.1, fun p _ hp => (F.1 p hp).2.2.2.2.1, fun p _ hp => (F.1 p hp).2.2.2.2.2⟩ F.2.2
set_option maxRecDepth 20000 in
theorem c_Net_lineAX {G : Gt} {K N : Nat → Nat} {I : Nat → Nat → Int32} {R : Nat → Nat → Option Nat} {L : Nat → Nat → Int64} {E : Nat → Nat → Int32} {El : Nat → Nat → Int64} {Er : Nat → Nat → Option Nat} {Γ : Gm} {ρ : Nat → Nat} {s : Sa} (hR : RepN Γ ρ K N I R L E El Er s) {z x y : Int32} (hx : inZ x (nI 0) (nI 5) = false) : CallT G m_Net_line 7 95 [.ref (Γ 0 0), .int z, .int x, .int y] (hN K N I R L E El Er) 1 6 0 (fun h' => h' = (hN K N I R L E El Er)) := by
  refine CallS.of (Nat.le_of_ble_eq_true rfl) ?_
  refine wp_aload_n d_Net_line_0 rfl 0 rfl ?_
  refine wp_iload_n d_Net_line_1 rfl 2 rfl ?_
  exact wp_callT (k' := 1) (n' := 6) (r := 0) d_Net_line_2 (link_V (as := [.int x]) (rest := []) (r := (R_Net, T_Net, 7)) d_Net_line_2 cal_Net_switchAt wM_Net_39 rfl (hN_o (hR.nt.1) (by decide)) rfl) cal_Net_switchAt rfl (c_Net_switchAtX hx) (Nat.le_of_ble_eq_true rfl) ⟨Nat.le_of_ble_eq_true rfl, Nat.le_of_ble_eq_true rfl⟩ (fun h' q => ⟨rfl, q⟩)
set_option maxRecDepth 20000 in
theorem c_Net_lineBX {G : Gt} {K N : Nat → Nat} {I : Nat → Nat → Int32} {R : Nat → Nat → Option Nat} {L : Nat → Nat → Int64} {E : Nat → Nat → Int32} {El : Nat → Nat → Int64} {Er : Nat → Nat → Option Nat} {Γ : Gm} {ρ : Nat → Nat} {s : Sa} (hR : RepN Γ ρ K N I R L E El Er s) {z x : Int32} {a : Nat} (ha : a < 6) (hx : inZ x (nI 0) (nI 5) = false) : CallT G m_Net_line 7 95 [.ref (Γ 0 0), .int z, .int (nI a), .int x] (hN K N I R L E El Er) 1 6 0 (fun h' => h' = (hN K N I R L E El Er)) := by
  refine CallS.of (Nat.le_of_ble_eq_true rfl) ?_
  refine wp_aload_n d_Net_line_0 rfl 0 rfl ?_
  refine wp_iload_n d_Net_line_1 rfl 2 rfl ?_
  refine wp_callV (r := 0) d_Net_line_2 (link_V (as := [.int (nI a)]) (rest := []) (r := (R_Net, T_Net, 7)) d_Net_line_2 cal_Net_switchAt wM_Net_39 rfl (hN_o (hR.nt.1) (by decide)) rfl) cal_Net_switchAt (c_Net_switchAt hR ha) (Nat.le_of_ble_eq_true rfl) ⟨Nat.le_of_ble_eq_true rfl, Nat.le_of_ble_eq_true rfl⟩ ?_
  refine wp_astore (lv' := [(4, .ref (Γ 1 a)), (0, .ref (Γ 0 0)), (1, .int z), (2, .int (nI a)), (3, .int x)]) d_Net_line_5 (by decide) rfl ?_
  refine wp_aload_n d_Net_line_7 rfl 1 rfl ?_
  refine wp_iload_n d_Net_line_8 rfl 4 rfl ?_
  exact wp_callT (k' := 1) (n' := 6) (r := 0) d_Net_line_9 (link_V (as := [.int x]) (rest := []) (r := (R_Net, T_Net, 7)) d_Net_line_9 cal_Net_switchAt wM_Net_39 rfl (hN_o (hR.nt.1) (by decide)) rfl) cal_Net_switchAt rfl (c_Net_switchAtX hx) (Nat.le_of_ble_eq_true rfl) ⟨Nat.le_of_ble_eq_true rfl, Nat.le_of_ble_eq_true rfl⟩ (fun h' q => ⟨rfl, q⟩)
set_option maxRecDepth 20000 in
theorem c_Net_lineLX {G : Gt} {K N : Nat → Nat} {I : Nat → Nat → Int32} {R : Nat → Nat → Option Nat} {L : Nat → Nat → Int64} {E : Nat → Nat → Int32} {El : Nat → Nat → Int64} {Er : Nat → Nat → Option Nat} {Γ : Gm} {ρ : Nat → Nat} {s : Sa} (hR : RepN Γ ρ K N I R L E El Er s) {a b : Nat} (ha : a < 6) (hb : b < 6) {z : Int32} (hx : inZ z (nI 0) (nI 7) = false) : CallT G m_Net_line 6 82 [.ref (Γ 0 0), .int z, .int (nI a), .int (nI b)] (hN K N I R L E El Er) 1 6 0 (fun h' => h' = (hN K N I R L E El Er)) := by
  refine CallS.of (Nat.le_of_ble_eq_true rfl) ?_
  refine wp_aload_n d_Net_line_0 rfl 0 rfl ?_
  refine wp_iload_n d_Net_line_1 rfl 2 rfl ?_
  refine wp_callV (r := 0) d_Net_line_2 (link_V (as := [.int (nI a)]) (rest := []) (r := (R_Net, T_Net, 7)) d_Net_line_2 cal_Net_switchAt wM_Net_39 rfl (hN_o (hR.nt.1) (by decide)) rfl) cal_Net_switchAt (c_Net_switchAt hR ha) (Nat.le_of_ble_eq_true rfl) ⟨Nat.le_of_ble_eq_true rfl, Nat.le_of_ble_eq_true rfl⟩ ?_
  refine wp_astore (lv' := [(4, .ref (Γ 1 a)), (0, .ref (Γ 0 0)), (1, .int z), (2, .int (nI a)), (3, .int (nI b))]) d_Net_line_5 (by decide) rfl ?_
  refine wp_aload_n d_Net_line_7 rfl 1 rfl ?_
  refine wp_iload_n d_Net_line_8 rfl 4 rfl ?_
  refine wp_callV (r := 0) d_Net_line_9 (link_V (as := [.int (nI b)]) (rest := []) (r := (R_Net, T_Net, 7)) d_Net_line_9 cal_Net_switchAt wM_Net_39 rfl (hN_o (hR.nt.1) (by decide)) rfl) cal_Net_switchAt (c_Net_switchAt hR hb) (Nat.le_of_ble_eq_true rfl) ⟨Nat.le_of_ble_eq_true rfl, Nat.le_of_ble_eq_true rfl⟩ ?_
  refine wp_astore (lv' := [(5, .ref (Γ 1 b)), (4, .ref (Γ 1 a)), (0, .ref (Γ 0 0)), (1, .int z), (2, .int (nI a)), (3, .int (nI b))]) d_Net_line_12 (by decide) rfl ?_
  refine wp_iload_n d_Net_line_14 rfl 3 rfl ?_
  refine wp_if_lt (tgt := 38) d_Net_line_15 (by decide) (fun c15 => ?_) (fun c15 => ?_)
  · exact wp_throwS (x := 0) d_Net_line_38 d_Net_line_41 d_Net_line_42 d_Net_line_44 d_Net_line_47 th_Net_47 wE_Net_43 wS_Net_45 rfl ⟨Nat.le_of_ble_eq_true rfl, Nat.le_of_ble_eq_true rfl⟩ ⟨rfl, rfl⟩
  · refine wp_iload_n d_Net_line_18 rfl 3 rfl ?_
    refine wp_bipush (v := nI 8) d_Net_line_19 (by decide) ?_
    refine wp_icmp_ge (tgt := 38) d_Net_line_21 (by decide) (fun c21 => ?_) (fun c21 => ?_)
    · exact wp_throwS (x := 0) d_Net_line_38 d_Net_line_41 d_Net_line_42 d_Net_line_44 d_Net_line_47 th_Net_47 wE_Net_43 wS_Net_45 rfl ⟨Nat.le_of_ble_eq_true rfl, Nat.le_of_ble_eq_true rfl⟩ ⟨rfl, rfl⟩
    · exact absurd ((inZ_x (by decide) hx).resolve_left c15) (fun q => lt_succ rfl (by decide) q (Int32.not_le.mp c21))
set_option maxRecDepth 20000 in
theorem c_Net_lineNX {G : Gt} {K N : Nat → Nat} {I : Nat → Nat → Int32} {R : Nat → Nat → Option Nat} {L : Nat → Nat → Int64} {E : Nat → Nat → Int32} {El : Nat → Nat → Int64} {Er : Nat → Nat → Option Nat} {Γ : Gm} {ρ : Nat → Nat} {s : Sa} (hR : RepN Γ ρ K N I R L E El Er s) {a b : Nat} (ha : a < 6) (hb : b < 6) {l a1 b1 : Nat} {v1 : Bool} (hl : l < 8) (hv : sLn s l = some (a1, b1, v1)) : CallT G m_Net_line 6 82 [.ref (Γ 0 0), .int (nI l), .int (nI a), .int (nI b)] (hN K N I R L E El Er) 1 6 0 (fun h' => h' = (hN K N I R L E El Er)) := by
  refine CallS.of (Nat.le_of_ble_eq_true rfl) ?_
  refine wp_aload_n d_Net_line_0 rfl 0 rfl ?_
  refine wp_iload_n d_Net_line_1 rfl 2 rfl ?_
  refine wp_callV (r := 0) d_Net_line_2 (link_V (as := [.int (nI a)]) (rest := []) (r := (R_Net, T_Net, 7)) d_Net_line_2 cal_Net_switchAt wM_Net_39 rfl (hN_o (hR.nt.1) (by decide)) rfl) cal_Net_switchAt (c_Net_switchAt hR ha) (Nat.le_of_ble_eq_true rfl) ⟨Nat.le_of_ble_eq_true rfl, Nat.le_of_ble_eq_true rfl⟩ ?_
  refine wp_astore (lv' := [(4, .ref (Γ 1 a)), (0, .ref (Γ 0 0)), (1, .int (nI l)), (2, .int (nI a)), (3, .int (nI b))]) d_Net_line_5 (by decide) rfl ?_
  refine wp_aload_n d_Net_line_7 rfl 1 rfl ?_
  refine wp_iload_n d_Net_line_8 rfl 4 rfl ?_
  refine wp_callV (r := 0) d_Net_line_9 (link_V (as := [.int (nI b)]) (rest := []) (r := (R_Net, T_Net, 7)) d_Net_line_9 cal_Net_switchAt wM_Net_39 rfl (hN_o (hR.nt.1) (by decide)) rfl) cal_Net_switchAt (c_Net_switchAt hR hb) (Nat.le_of_ble_eq_true rfl) ⟨Nat.le_of_ble_eq_true rfl, Nat.le_of_ble_eq_true rfl⟩ ?_
  refine wp_astore (lv' := [(5, .ref (Γ 1 b)), (4, .ref (Γ 1 a)), (0, .ref (Γ 0 0)), (1, .int (nI l)), (2, .int (nI a)), (3, .int (nI b))]) d_Net_line_12 (by decide) rfl ?_
  refine wp_iload_n d_Net_line_14 rfl 3 rfl ?_
  refine wp_if_ltN (tgt := 38) d_Net_line_15 (by decide) (by omega) ?_
  refine wp_iload_n d_Net_line_18 rfl 3 rfl ?_
  refine wp_bipush (v := nI 8) d_Net_line_19 (by decide) ?_
  refine wp_geN (tgt := 38) d_Net_line_21 (by decide) (by omega) (by omega) (fun c21 => ?_) (fun c21 => ?_)
  · exact wp_throwS (x := 0) d_Net_line_38 d_Net_line_41 d_Net_line_42 d_Net_line_44 d_Net_line_47 th_Net_47 wE_Net_43 wS_Net_45 rfl ⟨Nat.le_of_ble_eq_true rfl, Nat.le_of_ble_eq_true rfl⟩ ⟨rfl, rfl⟩
  · refine wp_aload_n d_Net_line_24 rfl 2 rfl ?_
    refine wn_get_Net d_Net_line_25 (hR.nt.1) 2 (by decide) wF_Net_24 rfl ?_
    refine wp_toVR (o := some (Γ 0 5)) (z := .ref (Γ 0 5)) (hR.nt.2.2.2.1) rfl ?_
    refine wp_iload_n d_Net_line_28 rfl 3 rfl ?_
    refine wn_ald (x := some (Γ 6 l)) d_Net_line_29 (hR.nt.2.2.2.2.2.2.2.2.2.2.1) rfl (by decide) (by rw [hR.nt.2.2.2.2.2.2.2.2.2.2.2.1]; omega) (by rw [hR.nt.2.2.2.2.2.2.2.2.2.2.2.1]; omega) (((hR.li l hl).2 _ _ _ hv).1) ?_
    refine wp_ifnonnull (tgt := 38) d_Net_line_30 (by decide) ?_
    exact wp_throwS (x := 0) d_Net_line_38 d_Net_line_41 d_Net_line_42 d_Net_line_44 d_Net_line_47 th_Net_47 wE_Net_43 wS_Net_45 rfl ⟨Nat.le_of_ble_eq_true rfl, Nat.le_of_ble_eq_true rfl⟩ ⟨rfl, rfl⟩
set_option maxRecDepth 20000 in
theorem c_Net_lineEX {G : Gt} {K N : Nat → Nat} {I : Nat → Nat → Int32} {R : Nat → Nat → Option Nat} {L : Nat → Nat → Int64} {E : Nat → Nat → Int32} {El : Nat → Nat → Int64} {Er : Nat → Nat → Option Nat} {Γ : Gm} {ρ : Nat → Nat} {s : Sa} (hR : RepN Γ ρ K N I R L E El Er s) {a : Nat} (ha : a < 6) {l : Nat} (hl : l < 8) (hn : sLn s l = none) : CallT G m_Net_line 6 82 [.ref (Γ 0 0), .int (nI l), .int (nI a), .int (nI a)] (hN K N I R L E El Er) 1 6 0 (fun h' => h' = (hN K N I R L E El Er)) := by
  refine CallS.of (Nat.le_of_ble_eq_true rfl) ?_
  refine wp_aload_n d_Net_line_0 rfl 0 rfl ?_
  refine wp_iload_n d_Net_line_1 rfl 2 rfl ?_
  refine wp_callV (r := 0) d_Net_line_2 (link_V (as := [.int (nI a)]) (rest := []) (r := (R_Net, T_Net, 7)) d_Net_line_2 cal_Net_switchAt wM_Net_39 rfl (hN_o (hR.nt.1) (by decide)) rfl) cal_Net_switchAt (c_Net_switchAt hR ha) (Nat.le_of_ble_eq_true rfl) ⟨Nat.le_of_ble_eq_true rfl, Nat.le_of_ble_eq_true rfl⟩ ?_
  refine wp_astore (lv' := [(4, .ref (Γ 1 a)), (0, .ref (Γ 0 0)), (1, .int (nI l)), (2, .int (nI a)), (3, .int (nI a))]) d_Net_line_5 (by decide) rfl ?_
  refine wp_aload_n d_Net_line_7 rfl 1 rfl ?_
  refine wp_iload_n d_Net_line_8 rfl 4 rfl ?_
  refine wp_callV (r := 0) d_Net_line_9 (link_V (as := [.int (nI a)]) (rest := []) (r := (R_Net, T_Net, 7)) d_Net_line_9 cal_Net_switchAt wM_Net_39 rfl (hN_o (hR.nt.1) (by decide)) rfl) cal_Net_switchAt (c_Net_switchAt hR ha) (Nat.le_of_ble_eq_true rfl) ⟨Nat.le_of_ble_eq_true rfl, Nat.le_of_ble_eq_true rfl⟩ ?_
  refine wp_astore (lv' := [(5, .ref (Γ 1 a)), (4, .ref (Γ 1 a)), (0, .ref (Γ 0 0)), (1, .int (nI l)), (2, .int (nI a)), (3, .int (nI a))]) d_Net_line_12 (by decide) rfl ?_
  refine wp_iload_n d_Net_line_14 rfl 3 rfl ?_
  refine wp_if_ltN (tgt := 38) d_Net_line_15 (by decide) (by omega) ?_
  refine wp_iload_n d_Net_line_18 rfl 3 rfl ?_
  refine wp_bipush (v := nI 8) d_Net_line_19 (by decide) ?_
  refine wp_geN (tgt := 38) d_Net_line_21 (by decide) (by omega) (by omega) (fun c21 => ?_) (fun c21 => ?_)
  · exact wp_throwS (x := 0) d_Net_line_38 d_Net_line_41 d_Net_line_42 d_Net_line_44 d_Net_line_47 th_Net_47 wE_Net_43 wS_Net_45 rfl ⟨Nat.le_of_ble_eq_true rfl, Nat.le_of_ble_eq_true rfl⟩ ⟨rfl, rfl⟩
  · refine wp_aload_n d_Net_line_24 rfl 2 rfl ?_
    refine wn_get_Net d_Net_line_25 (hR.nt.1) 2 (by decide) wF_Net_24 rfl ?_
    refine wp_toVR (o := some (Γ 0 5)) (z := .ref (Γ 0 5)) (hR.nt.2.2.2.1) rfl ?_
    refine wp_iload_n d_Net_line_28 rfl 3 rfl ?_
    refine wn_ald (x := none) d_Net_line_29 (hR.nt.2.2.2.2.2.2.2.2.2.2.1) rfl (by decide) (by rw [hR.nt.2.2.2.2.2.2.2.2.2.2.2.1]; omega) (by rw [hR.nt.2.2.2.2.2.2.2.2.2.2.2.1]; omega) (((hR.li l hl).1 hn)) ?_
    refine wp_ifnonnullN d_Net_line_30 ?_
    refine wp_iload_n d_Net_line_33 rfl 4 rfl ?_
    refine wp_iload_n d_Net_line_34 rfl 5 rfl ?_
    refine wp_neN (tgt := 48) d_Net_line_35 (by decide) (by omega) (by omega) (fun c35 => ?_) (fun c35 => ?_)
    · first | exact absurd c35 (by omega) | exact absurd rfl c35
    · exact wp_throwS (x := 0) d_Net_line_38 d_Net_line_41 d_Net_line_42 d_Net_line_44 d_Net_line_47 th_Net_47 wE_Net_43 wS_Net_45 rfl ⟨Nat.le_of_ble_eq_true rfl, Nat.le_of_ble_eq_true rfl⟩ ⟨rfl, rfl⟩
set_option maxRecDepth 20000 in
theorem c_Net_lineDX {G : Gt} {K N : Nat → Nat} {I : Nat → Nat → Int32} {R : Nat → Nat → Option Nat} {L : Nat → Nat → Int64} {E : Nat → Nat → Int32} {El : Nat → Nat → Int64} {Er : Nat → Nat → Option Nat} {Γ : Gm} {ρ : Nat → Nat} {s : Sa} (hR : RepN Γ ρ K N I R L E El Er s) {a b : Nat} (ha : a < 6) (hb : b < 6) {l : Nat} (hl : l < 8) (hn : sLn s l = none) (hda : degree s a ≤ 4) (hdb : degree s b ≤ 4) (hd : degree s a = 4 ∨ degree s b = 4) : CallT G m_Net_line 6 82 [.ref (Γ 0 0), .int (nI l), .int (nI a), .int (nI b)] (hN K N I R L E El Er) 1 6 0 (fun h' => h' = (hN K N I R L E El Er)) := by
  refine CallS.of (Nat.le_of_ble_eq_true rfl) ?_
  refine wp_aload_n d_Net_line_0 rfl 0 rfl ?_
  refine wp_iload_n d_Net_line_1 rfl 2 rfl ?_
  refine wp_callV (r := 0) d_Net_line_2 (link_V (as := [.int (nI a)]) (rest := []) (r := (R_Net, T_Net, 7)) d_Net_line_2 cal_Net_switchAt wM_Net_39 rfl (hN_o (hR.nt.1) (by decide)) rfl) cal_Net_switchAt (c_Net_switchAt hR ha) (Nat.le_of_ble_eq_true rfl) ⟨Nat.le_of_ble_eq_true rfl, Nat.le_of_ble_eq_true rfl⟩ ?_
  refine wp_astore (lv' := [(4, .ref (Γ 1 a)), (0, .ref (Γ 0 0)), (1, .int (nI l)), (2, .int (nI a)), (3, .int (nI b))]) d_Net_line_5 (by decide) rfl ?_
  refine wp_aload_n d_Net_line_7 rfl 1 rfl ?_
  refine wp_iload_n d_Net_line_8 rfl 4 rfl ?_
  refine wp_callV (r := 0) d_Net_line_9 (link_V (as := [.int (nI b)]) (rest := []) (r := (R_Net, T_Net, 7)) d_Net_line_9 cal_Net_switchAt wM_Net_39 rfl (hN_o (hR.nt.1) (by decide)) rfl) cal_Net_switchAt (c_Net_switchAt hR hb) (Nat.le_of_ble_eq_true rfl) ⟨Nat.le_of_ble_eq_true rfl, Nat.le_of_ble_eq_true rfl⟩ ?_
  refine wp_astore (lv' := [(5, .ref (Γ 1 b)), (4, .ref (Γ 1 a)), (0, .ref (Γ 0 0)), (1, .int (nI l)), (2, .int (nI a)), (3, .int (nI b))]) d_Net_line_12 (by decide) rfl ?_
  refine wp_iload_n d_Net_line_14 rfl 3 rfl ?_
  refine wp_if_ltN (tgt := 38) d_Net_line_15 (by decide) (by omega) ?_
  refine wp_iload_n d_Net_line_18 rfl 3 rfl ?_
  refine wp_bipush (v := nI 8) d_Net_line_19 (by decide) ?_
  refine wp_geN (tgt := 38) d_Net_line_21 (by decide) (by omega) (by omega) (fun c21 => ?_) (fun c21 => ?_)
  · exact wp_throwS (x := 0) d_Net_line_38 d_Net_line_41 d_Net_line_42 d_Net_line_44 d_Net_line_47 th_Net_47 wE_Net_43 wS_Net_45 rfl ⟨Nat.le_of_ble_eq_true rfl, Nat.le_of_ble_eq_true rfl⟩ ⟨rfl, rfl⟩
  · refine wp_aload_n d_Net_line_24 rfl 2 rfl ?_
    refine wn_get_Net d_Net_line_25 (hR.nt.1) 2 (by decide) wF_Net_24 rfl ?_
    refine wp_toVR (o := some (Γ 0 5)) (z := .ref (Γ 0 5)) (hR.nt.2.2.2.1) rfl ?_
    refine wp_iload_n d_Net_line_28 rfl 3 rfl ?_
    refine wn_ald (x := none) d_Net_line_29 (hR.nt.2.2.2.2.2.2.2.2.2.2.1) rfl (by decide) (by rw [hR.nt.2.2.2.2.2.2.2.2.2.2.2.1]; omega) (by rw [hR.nt.2.2.2.2.2.2.2.2.2.2.2.1]; omega) (((hR.li l hl).1 hn)) ?_
    refine wp_ifnonnullN d_Net_line_30 ?_
    refine wp_iload_n d_Net_line_33 rfl 4 rfl ?_
    refine wp_iload_n d_Net_line_34 rfl 5 rfl ?_
    refine wp_neN (tgt := 48) d_Net_line_35 (by decide) (by omega) (by omega) (fun c35 => ?_) (fun c35 => ?_)
    · refine wp_aload d_Net_line_48 1 rfl ?_
      refine wn_get_Swt d_Net_line_50 ((hR.sw a ha).2.1) 5 (by decide) wF_Net_50 rfl ?_
      refine wp_toI (z := (nI (degree s a))) ((hR.sw a ha).2.2.2.2.2.2.2.2.2.2.2.2.2.2.1) ?_
      refine wp_iconst (v := nI 4) d_Net_line_53 (by decide) ?_
      refine wp_geN (tgt := 66) d_Net_line_54 (by decide) (by omega) (by omega) (fun c54 => ?_) (fun c54 => ?_)
      · exact wp_throwS (x := 0) d_Net_line_66 d_Net_line_69 d_Net_line_70 d_Net_line_72 d_Net_line_75 th_Net_47 wE_Net_43 wS_Net_54 rfl ⟨Nat.le_of_ble_eq_true rfl, Nat.le_of_ble_eq_true rfl⟩ ⟨rfl, rfl⟩
      · refine wp_aload d_Net_line_57 0 rfl ?_
        refine wn_get_Swt d_Net_line_59 ((hR.sw b hb).2.1) 5 (by decide) wF_Net_50 rfl ?_
        refine wp_toI (z := (nI (degree s b))) ((hR.sw b hb).2.2.2.2.2.2.2.2.2.2.2.2.2.2.1) ?_
        refine wp_iconst (v := nI 4) d_Net_line_62 (by decide) ?_
        refine wp_ltN (tgt := 76) d_Net_line_63 (by decide) (by omega) (by omega) (fun c63 => ?_) (fun c63 => ?_)
        · omega
        · exact wp_throwS (x := 0) d_Net_line_66 d_Net_line_69 d_Net_line_70 d_Net_line_72 d_Net_line_75 th_Net_47 wE_Net_43 wS_Net_54 rfl ⟨Nat.le_of_ble_eq_true rfl, Nat.le_of_ble_eq_true rfl⟩ ⟨rfl, rfl⟩
    · exact wp_throwS (x := 0) d_Net_line_38 d_Net_line_41 d_Net_line_42 d_Net_line_44 d_Net_line_47 th_Net_47 wE_Net_43 wS_Net_45 rfl ⟨Nat.le_of_ble_eq_true rfl, Nat.le_of_ble_eq_true rfl⟩ ⟨rfl, rfl⟩
set_option maxRecDepth 20000 in
theorem c_Net_line1 {G : Gt} {K N : Nat → Nat} {I : Nat → Nat → Int32} {R : Nat → Nat → Option Nat} {L : Nat → Nat → Int64} {E : Nat → Nat → Int32} {El : Nat → Nat → Int64} {Er : Nat → Nat → Option Nat} {Γ : Gm} {ρ : Nat → Nat} {s : Sa} (hR : RepN Γ ρ K N I R L E El Er s) {n0 : Nat} (hV : Inv n0 s) {a b : Nat} (ha : a < 6) (hb : b < 6) {l : Nat} (hl : l < 8) (hn : sLn s l = none) (hab : a ≠ b) (hda : degree s a < 4) (hdb : degree s b < 4) : CallE G m_Net_line 4 61 [.ref (Γ 0 0), .int (nI l), .int (nI a), .int (nI b)] (hN K N I R L E El Er) (0 + (0 + (0 + 1 + 1 + 1 + 1 + 1 + (0 + 1) + 1 + (0 + 1) + 1 + 1) + 1 + (0 + 1 + 1 + 1 + 1 + 1 + (0 + 1) + 1 + (0 + 1) + 1 + 1) + 1) + 1) (0 + (0 + (0 + 3 + 3 + 3 + 3 + 3 + (0 + 200) + 3 + (0 + 20) + 3 + 5) + 7 + (0 + 3 + 3 + 3 + 3 + 3 + (0 + 200) + 3 + (0 + 20) + 3 + 5) + 7) + 5) none (NetOK (Γ 0 0) (wLn s (va_up (sLn s) l (some (a, b, true))))) := by
  have hD := hR.df
  refine CallS.of (Nat.le_of_ble_eq_true rfl) ?_
  refine wp_aload_n d_Net_line_0 rfl 0 rfl ?_
  refine wp_iload_n d_Net_line_1 rfl 2 rfl ?_
  refine wp_callV (r := 0) d_Net_line_2 (link_V (as := [.int (nI a)]) (rest := []) (r := (R_Net, T_Net, 7)) d_Net_line_2 cal_Net_switchAt wM_Net_39 rfl (hN_o (hR.nt.1) (by decide)) rfl) cal_Net_switchAt (c_Net_switchAt hR ha) (Nat.le_of_ble_eq_true rfl) ⟨Nat.le_of_ble_eq_true rfl, Nat.le_of_ble_eq_true rfl⟩ ?_
  refine wp_astore (lv' := [(4, .ref (Γ 1 a)), (0, .ref (Γ 0 0)), (1, .int (nI l)), (2, .int (nI a)), (3, .int (nI b))]) d_Net_line_5 (by decide) rfl ?_
  refine wp_aload_n d_Net_line_7 rfl 1 rfl ?_
  refine wp_iload_n d_Net_line_8 rfl 4 rfl ?_
  refine wp_callV (r := 0) d_Net_line_9 (link_V (as := [.int (nI b)]) (rest := []) (r := (R_Net, T_Net, 7)) d_Net_line_9 cal_Net_switchAt wM_Net_39 rfl (hN_o (hR.nt.1) (by decide)) rfl) cal_Net_switchAt (c_Net_switchAt hR hb) (Nat.le_of_ble_eq_true rfl) ⟨Nat.le_of_ble_eq_true rfl, Nat.le_of_ble_eq_true rfl⟩ ?_
  refine wp_astore (lv' := [(5, .ref (Γ 1 b)), (4, .ref (Γ 1 a)), (0, .ref (Γ 0 0)), (1, .int (nI l)), (2, .int (nI a)), (3, .int (nI b))]) d_Net_line_12 (by decide) rfl ?_
  refine wp_iload_n d_Net_line_14 rfl 3 rfl ?_
  refine wp_if_ltN (tgt := 38) d_Net_line_15 (by decide) (by omega) ?_
  refine wp_iload_n d_Net_line_18 rfl 3 rfl ?_
  refine wp_bipush (v := nI 8) d_Net_line_19 (by decide) ?_
  refine wp_geN (tgt := 38) d_Net_line_21 (by decide) (by omega) (by omega) (fun c21 => ?_) (fun c21 => ?_)
  · first | exact absurd c35 (by omega) | (exfalso; omega)
  · refine wp_aload_n d_Net_line_24 rfl 2 rfl ?_
    refine wn_get_Net d_Net_line_25 (hR.nt.1) 2 (by decide) wF_Net_24 rfl ?_
    refine wp_toVR (o := some (Γ 0 5)) (z := .ref (Γ 0 5)) (hR.nt.2.2.2.1) rfl ?_
    refine wp_iload_n d_Net_line_28 rfl 3 rfl ?_
    refine wn_ald (x := none) d_Net_line_29 (hR.nt.2.2.2.2.2.2.2.2.2.2.1) rfl (by decide) (by rw [hR.nt.2.2.2.2.2.2.2.2.2.2.2.1]; omega) (by rw [hR.nt.2.2.2.2.2.2.2.2.2.2.2.1]; omega) (((hR.li l hl).1 hn)) ?_
    refine wp_ifnonnullN d_Net_line_30 ?_
    refine wp_iload_n d_Net_line_33 rfl 4 rfl ?_
    refine wp_iload_n d_Net_line_34 rfl 5 rfl ?_
    refine wp_neN (tgt := 48) d_Net_line_35 (by decide) (by omega) (by omega) (fun c35 => ?_) (fun c35 => ?_)
    · refine wp_aload d_Net_line_48 1 rfl ?_
      refine wn_get_Swt d_Net_line_50 ((hR.sw a ha).2.1) 5 (by decide) wF_Net_50 rfl ?_
      refine wp_toI (z := (nI (degree s a))) ((hR.sw a ha).2.2.2.2.2.2.2.2.2.2.2.2.2.2.1) ?_
      refine wp_iconst (v := nI 4) d_Net_line_53 (by decide) ?_
      refine wp_geN (tgt := 66) d_Net_line_54 (by decide) (by omega) (by omega) (fun c54 => ?_) (fun c54 => ?_)
      · omega
      · refine wp_aload d_Net_line_57 0 rfl ?_
        refine wn_get_Swt d_Net_line_59 ((hR.sw b hb).2.1) 5 (by decide) wF_Net_50 rfl ?_
        refine wp_toI (z := (nI (degree s b))) ((hR.sw b hb).2.2.2.2.2.2.2.2.2.2.2.2.2.2.1) ?_
        refine wp_iconst (v := nI 4) d_Net_line_62 (by decide) ?_
        refine wp_ltN (tgt := 76) d_Net_line_63 (by decide) (by omega) (by omega) (fun c63 => ?_) (fun c63 => ?_)
        · refine wp_aload_n d_Net_line_76 rfl 2 rfl ?_
          refine wn_get_Net d_Net_line_77 (hR.nt.1) 2 (by decide) wF_Net_24 rfl ?_
          refine wp_toVR (o := some (Γ 0 5)) (z := .ref (Γ 0 5)) (hR.nt.2.2.2.1) rfl ?_
          refine wp_iload_n d_Net_line_80 rfl 3 rfl ?_
          refine wn_new_Lin d_Net_line_81 wC_Net_22 (hD) (fun q1 hq1 => ?_)
          refine wp_dup d_Net_line_84 rfl ?_
          refine wp_iload_n d_Net_line_85 rfl 4 rfl ?_
          refine wp_iload_n d_Net_line_86 rfl 5 rfl ?_
          refine wp_callEU (k' := (0 + (0 + 1 + 1 + 1 + 1 + 1 + (0 + 1) + 1 + (0 + 1) + 1 + 1) + 1 + (0 + 1 + 1 + 1 + 1 + 1 + (0 + 1) + 1 + (0 + 1) + 1 + 1) + 1)) (n' := (0 + (0 + 3 + 3 + 3 + 3 + 3 + (0 + 200) + 3 + (0 + 20) + 3 + 5) + 7 + (0 + 3 + 3 + 3 + 3 + 3 + (0 + 200) + 3 + (0 + 20) + 3 + 5) + 7)) (r := 3) d_Net_line_87 (link_I (as := [.int (nI a), .int (nI b)]) (rest := [.ref q1, .int (nI l), .ref (Γ 0 5)]) d_Net_line_87 cal_Lin_init rfl wM_Net_56 rfl) cal_Lin_init (c_Lin_init (va_up ρ q1 (60000 + l)) l (DF.pK (hD) (by decide)) (kat _ _ _)) (Nat.le_of_ble_eq_true rfl) ⟨Nat.le_of_ble_eq_true rfl, Nat.le_of_ble_eq_true rfl⟩ (fun h' q87 => ?_)
          obtain ⟨ρC, KC, NC, IC, RC, LC, EC, ElC, ErC, c0, c1, a0, a1, rfl, GC, LF⟩ := q87
          have GC2 := (Gw.newo (ρ := ρ) (N := N) q1 (60000 + l) hD hq1 (show 8 + 1 ≠ 0 by decide)).tr GC (Or.inl rfl)
          have hRC := hR.gw GC2 hq1
          have hrho : ρC q1 = 60000 + l := by rw [(GC.1 q1 (by rw [kat]; decide)).2.2.1]; exact if_pos rfl
          refine wn_ast d_Net_line_90 (hRC.nt.2.2.2.2.2.2.2.2.2.2.1) rfl (by decide) (LF.1) (by decide) rfl (by rw [hRC.nt.2.2.2.2.2.2.2.2.2.2.2.1]; omega) (by rw [hRC.nt.2.2.2.2.2.2.2.2.2.2.2.1]; omega) ?_
          refine wp_aload d_Net_line_91 1 rfl ?_
          refine wp_dup d_Net_line_93 rfl ?_
          refine wn_get_Swt d_Net_line_94 ((hRC.sw a ha).2.1) 5 (by decide) wF_Net_50 rfl ?_
          refine wp_toI (z := (nI (degree s a))) ((hRC.sw a ha).2.2.2.2.2.2.2.2.2.2.2.2.2.2.1) ?_
          refine wp_iconst (v := nI 1) d_Net_line_97 (by decide) ?_
          refine wp_iaddN d_Net_line_98 ?_
          refine wn_put_Swt (ty := t_Swt 5) (I' := u2 IC 53 (Γ 1 a) (nI ((degree s a) + 1))) (R' := RC) (L' := LC) d_Net_line_99 ((hRC.sw a ha).2.1) 5 (by decide) wF_Net_50 rfl (t_Swt_ok 5 (by decide)) rfl rfl sF_53 (oI _ _ _ 53 _) ?_
          refine wp_aload d_Net_line_102 0 rfl ?_
          refine wp_dup d_Net_line_104 rfl ?_
          refine wn_get_Swt d_Net_line_105 ((hRC.sw b hb).2.1) 5 (by decide) wF_Net_50 rfl ?_
          refine wp_toI (z := (nI (degree s b))) (by rw [u2_at, if_neg (sw_ne hRC ha hb hab.symm)]; exact (hRC.sw b hb).2.2.2.2.2.2.2.2.2.2.2.2.2.2.1) ?_
          refine wp_iconst (v := nI 1) d_Net_line_108 (by decide) ?_
          refine wp_iaddN d_Net_line_109 ?_
          refine wn_put_Swt (ty := t_Swt 5) (I' := u2 (u2 IC 53 (Γ 1 a) (nI ((degree s a) + 1))) 53 (Γ 1 b) (nI ((degree s b) + 1))) (R' := RC) (L' := LC) d_Net_line_110 ((hRC.sw b hb).2.1) 5 (by decide) wF_Net_50 rfl (t_Swt_ok 5 (by decide)) rfl rfl sF_53 (oI _ _ _ 53 _) ?_
          exact wp_vret d_Net_line_113 rfl ⟨rfl, ln_new hRC hV hl hn ha hb hab LF hrho⟩
        · omega
    · first | exact absurd c35 (by omega) | (exfalso; omega)
theorem n_Net_line {G : Gt} {K N : Nat → Nat} {I : Nat → Nat → Int32} {R : Nat → Nat → Option Nat} {L : Nat → Nat → Int64} {E : Nat → Nat → Int32} {El : Nat → Nat → Int64} {Er : Nat → Nat → Option Nat} {Γ : Gm} {ρ : Nat → Nat} {s : Sa} (hR : RepN Γ ρ K N I R L E El Er s) {n0 : Nat} (hV : Inv n0 s) (z x y : Int32) : CallN G m_Net_line 7 95 [.ref (Γ 0 0), .int z, .int x, .int y] (hN K N I R L E El Er) 23 520 (stLine s z x y) true (Γ 0 0) := by
  unfold stLine swB
  cases hx : inZ x (nI 0) (nI 5) with
  | false => rw [Bool.and_false]; exact CallN.ofT (c_Net_lineAX hR hx) (by decide) (by decide) (by decide) (by decide) rfl hR.okT
  | true =>
    obtain ⟨a, ha', rfl⟩ := inZ_of (by decide) hx
    have ha : a < 6 := by omega
    cases hy : inZ y (nI 0) (nI 5) with
    | false => rw [Bool.and_false]; exact CallN.ofT (c_Net_lineBX hR ha hy) (by decide) (by decide) (by decide) (by decide) rfl hR.okT
    | true =>
      obtain ⟨b, hb', rfl⟩ := inZ_of (by decide) hy
      have hb : b < 6 := by omega
      cases hz : inZ z (nI 0) (nI 7) with
      | false => exact CallN.ofT (c_Net_lineLX hR ha hb hz) (by decide) (by decide) (by decide) (by decide) rfl hR.okT
      | true =>
        obtain ⟨l, hl', rfl⟩ := inZ_of (by decide) hz
        have hl : l < 8 := by omega
        rw [nN_nI (by omega), nN_nI (by omega), nN_nI (by omega)]
        cases hv : sLn s l with
        | some q =>
          obtain ⟨a1, b1, v1⟩ := q
          have e : lnB s l = true := by unfold lnB; rw [hv]; rfl
          rw [e]
          exact CallN.ofT (c_Net_lineNX hR ha hb hl hv) (by decide) (by decide) (by decide) (by decide) rfl hR.okT
        | none =>
          have e : lnB s l = false := by unfold lnB; rw [hv]; rfl
          rw [e]
          have da := hV.2.1.2.2.2.2.1 a
          have db := hV.2.1.2.2.2.2.1 b
          by_cases hab : a = b
          · subst hab
            rw [decide_eq_true rfl]
            exact CallN.ofT (c_Net_lineEX hR ha hl hv) (by decide) (by decide) (by decide) (by decide) rfl hR.okT
          · rw [decide_eq_false (fun q => hab (by have q2 := congrArg nN q; rw [nN_nI (by omega), nN_nI (by omega)] at q2; exact q2))]
            by_cases hd : degree s a = 4 ∨ degree s b = 4
            · rw [if_neg (by rcases hd with h | h <;> (rw [h]; simp))]
              exact CallN.ofT (c_Net_lineDX hR ha hb hl hv da db hd) (by decide) (by decide) (by decide) (by decide) rfl hR.okT
            · rw [if_pos (by
                rw [beq_eq_false_iff_ne.mpr (fun q => hd (Or.inl q)), beq_eq_false_iff_ne.mpr (fun q => hd (Or.inr q))]
                rfl)]
              exact CallN.ofE (c_Net_line1 hR hV ha hb hl hv hab (by omega) (by omega)) (by decide) (by decide) (by decide) (by decide) rfl (fun _ q => q)
end Cls35
