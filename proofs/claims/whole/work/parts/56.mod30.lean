section Mod30
theorem RC_free {b : Bool} {d : Ch} {c : Nat} {M : Nat → Nat → Int32} (hk : cKept d ≤ (cSent d).length) (hp : 0 < cKept d) (h : RC b d c M) : RC b (wKept d (cKept d - 1)) c (u2 (shL M 27 (20 * c) (20 * c + (cKept d - 1))) 26 c (nI (cKept d - 1))) := by
  obtain ⟨h1, h2, h3, h4, h5, h6, h7⟩ := h
  refine ⟨h1, ?_, fun k x hkx hx => ?_, h4, h5, h6, h7⟩
  · rw [u2_at, if_pos rfl]
    rfl
  · have hkx2 : k < cKept d - 1 := hkx
    have hx2 : (cSent d)[(cSent d).length - (cKept d - 1) + k]? = some x := hx
    rw [u2_ne _ _ (by decide), shL_at, if_pos (by omega), show 20 * c + k + 1 = 20 * c + (k + 1) by omega]
    rw [show (cSent d).length - (cKept d - 1) + k = (cSent d).length - cKept d + (k + 1) by omega] at hx2
    exact h3 (k + 1) x (by omega) hx2
theorem agr_free {c n : Nat} {M : Nat → Nat → Int32} (hn : n ≤ 20) : agr c M (u2 (shL M 27 (20 * c) (20 * c + (n - 1))) 26 c (nI (n - 1))) := by
  refine agr.trans (M1 := shL M 27 (20 * c) (20 * c + (n - 1))) ⟨fun a ha => shL_ne _ (by omega), fun a h1 h2 i hi => by rw [shL_ne _ h1], fun i hi => by rw [shL_at, if_neg (by omega)], fun i hi => by rw [shL_ne _ (by decide)]⟩ (agr_1 (j := 26) (by decide) (by decide) (by decide))
theorem va_self {α : Type} (f : Nat → α) (c : Nat) : va_up f c (f c) = f := by
  funext i
  unfold va_up
  by_cases h : i = c
  · rw [if_pos h, h]
  · rw [if_neg h]
theorem ch1_self (s : Sa) (c : Nat) : ch1 s c (sCh s c) = s := by
  show (s.1, s.2.1, s.2.2.1, s.2.2.2.1, s.2.2.2.2.1, s.2.2.2.2.2.1, s.2.2.2.2.2.2.1, va_up (sCh s) c (sCh s c), s.2.2.2.2.2.2.2.2) = s
  rw [va_self]
theorem ch1_ch1 (s : Sa) (c : Nat) (d e : Ch) : ch1 (ch1 s c d) c e = ch1 s c e := by
  show (s.1, s.2.1, s.2.2.1, s.2.2.2.1, s.2.2.2.2.1, s.2.2.2.2.2.1, s.2.2.2.2.2.2.1, va_up (va_up (sCh s) c d) c e, s.2.2.2.2.2.2.2.2) = _
  rw [va_va]
  rfl
set_option maxRecDepth 20000 in
theorem l_Mod_carF {G : Gt} {B : Bt} {o : Nat} {A : Nat → Nat} {F : Nat → Int32} {Ml : Nat → Nat → Int64} {s : Sa} (hI : mInj o A) {k q : Nat} (hk : k < 16) (hq : q < cKept (sCh s k)) (hb : ∀ c, bCh (sCh s c)) (hB : 1 ≤ Bd B ∧ 14 ≤ Bw B) (KK : ∀ X, RepM (ch1 s k (wKept (sCh s k) (cKept (sCh s k) - (q + 1)))) F X Ml → WP G m_Mod_carry B 128 [] [] (hM o A F X Ml) 0 0) : ∀ (f i : Nat) (X : Nat → Nat → Int32), q + 1 - i < f → i ≤ q + 1 → RepM (ch1 s k (wKept (sCh s k) (cKept (sCh s k) - i))) F X Ml → WP G m_Mod_carry B 109 [(9, .int (nI i)), (8, .int (nI q)), (4, .int (nI k)), (0, .ref o)] [] (hM o A F X Ml) 0 0 := by
  have hbk := hb k
  have hk20 := hbk.1
  intro f
  induction f with
  | zero =>
    intro i X h1
    omega
  | succ f ih =>
    intro i X hf hi hX
    refine wp_iload d_Mod_carry_109 0 rfl ?_
    refine wp_iload d_Mod_carry_111 1 rfl ?_
    refine wp_gtN (tgt := 128) d_Mod_carry_113 (by decide) (by omega) (by omega) (fun c113 => ?_) (fun c113 => ?_)
    · refine wp_lv [] rfl ?_
      obtain rfl : i = q + 1 := by omega
      exact KK X hX
    · refine wp_aload_n d_Mod_carry_116 rfl 3 rfl ?_
      refine wp_iload d_Mod_carry_117 2 rfl ?_
      refine wp_callU (r := 0) d_Mod_carry_119 (link_V (as := [.int (nI k)]) (rest := []) (r := (R_Mod, T_Mod, 43)) d_Mod_carry_119 cal_Mod_free wM_Mod_251 rfl hM_o rfl) cal_Mod_free (c_Mod_free hI hk (by have := (hX.ch k hk).2.1; rw [ch1_at] at this; exact this) (by show cKept (sCh s k) - i ≤ 20; omega) (by show 0 < cKept (sCh s k) - i; omega)) (Nat.le_of_ble_eq_true rfl) ⟨by have := hB.1; omega, Nat.le_trans (Nat.le_of_ble_eq_true rfl) hB.2⟩ ?_
      refine wp_iinc (lv' := [(9, .int (nI (i + 1))), (8, .int (nI q)), (4, .int (nI k)), (0, .ref o)]) d_Mod_carry_122 0 rfl (nI_1 _) (by decide) rfl ?_
      refine wp_goto (tgt := 109) d_Mod_carry_125 (by decide) ?_
      refine ih (i + 1) _ (by omega) (by omega) ?_
      have h9 := rep_ch (c := k) (d := wKept (sCh s k) (cKept (sCh s k) - i - 1)) hX (fun c => va_bnd (c := k) (d := wKept (sCh s k) (cKept (sCh s k) - i)) (fun c => ⟨(hb c).1, (hb c).2.2.2.2.2.1⟩) ⟨by show cKept (sCh s k) - i ≤ 20; omega, hbk.2.2.2.2.2.1⟩ c) (agr_free (n := cKept (sCh s k) - i) (by omega)) (by have h8 := hX.ch k hk; rw [ch1_at] at h8; exact RC_free (by have := hbk.2.1; show cKept (sCh s k) - i ≤ (cSent (sCh s k)).length; omega) (by show 0 < cKept (sCh s k) - i; omega) h8)
      rw [ch1_ch1] at h9
      exact h9
set_option maxRecDepth 20000 in
theorem l_Mod_carL {G : Gt} {B : Bt} {o : Nat} {A : Nat → Nat} {F : Nat → Int32} {Ml : Nat → Nat → Int64} {s : Sa} (hI : mInj o A) {k : Nat} {e0 : Ch} (hk : k < 16) (hb : ∀ c, bCh (sCh s c)) (hsome : (sLn s (k / 2)).isSome = true) (hB : 2 ≤ Bd B ∧ 32 ≤ Bw B) (KK : ∀ X, RepM (ch1 s k e0) F X Ml → WP G m_Mod_carry B 165 [] [] (hM o A F X Ml) 0 0) : ∀ (f i : Nat) (e : Ch) (X : Nat → Nat → Int32), cKept (sCh s k) - i < f → i ≤ cKept (sCh s k) → cKept e = cKept (sCh s k) → bCh e → e0 = layAll (sMin s) (cKept (sCh s k) - i) i e → RepM (ch1 s k e) F X Ml → WP G m_Mod_carry B 134 [(9, .int (nI i)), (4, .int (nI k)), (0, .ref o)] [] (hM o A F X Ml) 0 0 := by
  have hbk := hb k
  have hk20 := hbk.1
  intro f
  induction f with
  | zero =>
    intro i e X h1
    omega
  | succ f ih =>
    intro i e X hf hi hek hbe he0 hX
    have hRC : RC true e k X := by have h8 := hX.ch k hk; rw [ch1_at, show (sLn (ch1 s k e) (k / 2)).isSome = true from hsome] at h8; exact h8
    refine wp_iload d_Mod_carry_134 0 rfl ?_
    refine wp_if_ltN (tgt := 165) d_Mod_carry_136 (by decide) (by omega) ?_
    refine wp_iload d_Mod_carry_139 0 rfl ?_
    refine wp_aload_n d_Mod_carry_141 rfl 2 rfl ?_
    refine wm_get d_Mod_carry_142 26 (by decide) wF_Mod_75 rfl ?_
    refine wp_iload d_Mod_carry_145 1 rfl ?_
    refine wm_ild (j := 26) (x := (nI (cKept (sCh s k)))) d_Mod_carry_147 hI (by decide) (by decide) (by show _ < 16; omega) (by decide) (hRC.2.1.trans (congrArg nI hek)) ?_
    refine wp_geN (tgt := 165) d_Mod_carry_148 (by decide) (by omega) (by omega) (fun c148 => ?_) (fun c148 => ?_)
    · refine wp_lv [] rfl ?_
      obtain rfl : i = cKept (sCh s k) := by omega
      rw [Nat.sub_self] at he0
      exact KK X (by rw [he0]; exact hX)
    · refine wp_aload_n d_Mod_carry_151 rfl 2 rfl ?_
      refine wp_iload d_Mod_carry_152 1 rfl ?_
      refine wp_iload d_Mod_carry_154 0 rfl ?_
      refine wp_callU (r := 0) d_Mod_carry_156 (link_V (as := [.int (nI k), .int (nI i)]) (rest := []) (r := (R_Mod, T_Mod, 43)) d_Mod_carry_156 cal_Mod_layKept wM_Mod_236 rfl hM_o rfl) cal_Mod_layKept (c_Mod_layKeptS (d := e) (mi := sMin s) hI hk hbe hRC (by rw [hek]; omega) hX.fi.1) (Nat.le_of_ble_eq_true rfl) ⟨by have := hB.1; omega, Nat.le_trans (Nat.le_of_ble_eq_true rfl) hB.2⟩ ?_
      refine wp_iinc (lv' := [(9, .int (nI (i + 1))), (4, .int (nI k)), (0, .ref o)]) d_Mod_carry_159 0 rfl (nI_1 _) (by decide) rfl ?_
      refine wp_goto (tgt := 134) d_Mod_carry_162 (by decide) ?_
      refine ih (i + 1) (layKeptC e i (sMin s)) _ (by omega) (by omega) ((layKeptC_sent e i (sMin s)).2.1.trans hek) (layKeptC_b hbe (by omega)) ?_ ?_
      · rw [he0, show cKept (sCh s k) - i = (cKept (sCh s k) - (i + 1)) + 1 by omega]
        rfl
      · have h9 := rep_ch (c := k) (d := layKeptC e i (sMin s)) hX (fun c => va_bnd (c := k) (d := e) (fun c => ⟨(hb c).1, (hb c).2.2.2.2.2.1⟩) ⟨hbe.1, hbe.2.2.2.2.2.1⟩ c) (agr_layK hbe.2.2.2.2.2.1) (by rw [show (sLn (ch1 s k e) (k / 2)).isSome = true from hsome]; exact RC_layKept hbe.2.2.2.2.2.1 hRC)
        rw [ch1_ch1] at h9
        exact h9
set_option maxRecDepth 20000 in
theorem c_Mod_carry0 {G : Gt} {o : Nat} {A : Nat → Nat} {Fi : Nat → Int32} {M : Nat → Nat → Int32} {Ml : Nat → Nat → Int64} {s : Sa} (hI : mInj o A) (hL : RLn s (M 6) (M 7) (M 8) (M 9)) {x z : Int32} (hx : chOK s x z = false) : CallR G m_Mod_carry 3 42 [.ref o, .int x, .int z] (hM o A Fi M Ml) 0 0 (some (.int (nI 0))) (hM o A (va_up Fi 0 (nI 1)) M Ml) := by
  refine CallS.of (Nat.le_of_ble_eq_true rfl) ?_
  refine wp_aload_n d_Mod_carry_0 rfl 0 rfl ?_
  refine wp_iload_n d_Mod_carry_1 rfl 1 rfl ?_
  refine wp_iload_n d_Mod_carry_2 rfl 2 rfl ?_
  refine wp_callV (r := 0) d_Mod_carry_3 (link_V (as := [.int x, .int z]) (rest := []) (r := (R_Mod, T_Mod, 43)) d_Mod_carry_3 cal_Mod_isChannel wM_Mod_230 rfl hM_o rfl) cal_Mod_isChannel (c_Mod_isChannelF hI hL hx) (Nat.le_of_ble_eq_true rfl) ⟨Nat.le_of_ble_eq_true rfl, Nat.le_of_ble_eq_true rfl⟩ ?_
  refine wp_if_eqB (tgt := 22) d_Mod_carry_6 (by decide) (fun _ => ?_) (fun c => absurd c (by decide))
  refine wp_iconst (v := nI 0) d_Mod_carry_22 (by decide) ?_
  exact wp_iret d_Mod_carry_23 rfl ⟨rfl, rfl⟩
set_option maxRecDepth 20000 in
theorem c_Mod_carry1 {G : Gt} {o : Nat} {A : Nat → Nat} {Fi : Nat → Int32} {M : Nat → Nat → Int32} {Ml : Nat → Nat → Int64} {s : Sa} (hI : mInj o A) (hL : RLn s (M 6) (M 7) (M 8) (M 9)) {l c : Nat} (hl : l < 8) (hc : c < 2) (hx : chOK s (nI l) (nI c) = true) (hn : M 28 (2 * l + c) = nI 0) : CallR G m_Mod_carry 3 42 [.ref o, .int (nI l), .int (nI c)] (hM o A Fi M Ml) 0 0 (some (.int (nI 0))) (hM o A (va_up Fi 0 (nI 0)) M Ml) := by
  refine CallS.of (Nat.le_of_ble_eq_true rfl) ?_
  refine wp_aload_n d_Mod_carry_0 rfl 0 rfl ?_
  refine wp_iload_n d_Mod_carry_1 rfl 1 rfl ?_
  refine wp_iload_n d_Mod_carry_2 rfl 2 rfl ?_
  refine wp_callV (r := 0) d_Mod_carry_3 (link_V (as := [.int (nI l), .int (nI c)]) (rest := []) (r := (R_Mod, T_Mod, 43)) d_Mod_carry_3 cal_Mod_isChannel wM_Mod_230 rfl hM_o rfl) cal_Mod_isChannel (c_Mod_isChannelT hI hL hx) (Nat.le_of_ble_eq_true rfl) ⟨Nat.le_of_ble_eq_true rfl, Nat.le_of_ble_eq_true rfl⟩ ?_
  refine wp_if_eqB (tgt := 22) d_Mod_carry_6 (by decide) (fun c => absurd c (by decide)) (fun _ => ?_)
  refine wp_aload_n d_Mod_carry_9 rfl 0 rfl ?_
  refine wm_get d_Mod_carry_10 28 (by decide) wF_Mod_81 rfl ?_
  refine wp_iconst (v := nI 2) d_Mod_carry_13 (by decide) ?_
  refine wp_iload_n d_Mod_carry_14 rfl 1 rfl ?_
  refine wp_imulN d_Mod_carry_15 ?_
  refine wp_iload_n d_Mod_carry_16 rfl 2 rfl ?_
  refine wp_iaddN d_Mod_carry_17 ?_
  refine wm_ild (j := 28) (x := (nI 0)) d_Mod_carry_18 hI (by decide) (by decide) (by show _ < 16; omega) (by decide) (hn) ?_
  refine wp_if_neN (tgt := 24) d_Mod_carry_19 (by decide) (by omega) (fun c => absurd c (by decide)) (fun _ => ?_)
  refine wp_iconst (v := nI 0) d_Mod_carry_22 (by decide) ?_
  exact wp_iret d_Mod_carry_23 rfl ⟨rfl, rfl⟩
set_option maxRecDepth 20000 in
theorem c_Mod_carry2 {G : Gt} {o : Nat} {A : Nat → Nat} {Fi : Nat → Int32} {M : Nat → Nat → Int32} {Ml : Nat → Nat → Int64} {s : Sa} (hI : mInj o A) {n : Nat} (hR : RepM s Fi M Ml) (hV : Inv n s) {l c kd se : Nat} {w : List (Nat × Nat)} (hl : l < 8) (hc : c < 2) (hx : chOK s (nI l) (nI c) = true) (hs : (sLn s l).isSome = true) (hwr : cWire (sCh s (2 * l + c)) = (kd, se) :: w) : CallE G m_Mod_carry 3 56 [.ref o, .int (nI l), .int (nI c)] (hM o A Fi M Ml) 0 0 (some (.int (nI (carryS s l (2 * l + c) (2 * l + 1 - c) (kd, se) w).1))) (RefOK o A (0, nI (carryS s l (2 * l + c) (2 * l + 1 - c) (kd, se) w).1, (carryS s l (2 * l + c) (2 * l + 1 - c) (kd, se) w).2)) := by
  have hL := hR.ln
  have hcB := hV.bCh (2 * l + c)
  have hwl := hcB.2.2.2.2.2.1
  have hs2 : (sLn s ((2 * l + c) / 2)).isSome = true := by rw [show (2 * l + c) / 2 = l by omega]; exact hs
  have hch : RC true (sCh s (2 * l + c)) (2 * l + c) M := by have := hR.ch (2 * l + c) (by omega); rw [hs2] at this; exact this
  have hok := hV.2.2.1.2.2.2.1 (2 * l + c)
  have hsv : serves s l = true := by
    rcases Bool.eq_false_or_eq_true (serves s l) with h | h
    · exact h
    · have h9 := hok.2.2.2.2.2.2.2.2.2.2.1 (by rw [show (2 * l + c) / 2 = l by omega]; exact h)
      rw [hwr] at h9
      cases h9
  have hf0 := hcB.2.2.2.2.2.2 (kd, se) (by rw [hwr]; exact List.mem_cons_self)
  have hfr := hch.2.2.2.2.1 0 (kd, se) (by rw [hwr]; rfl)
  have hne : sLn s ((2 * l + c) / 2) ≠ none := fun q => by rw [q] at hs2; cases hs2
  have hV1 : Inv n (ch1 s (2 * l + c) (wWire (sCh s (2 * l + c)) w)) := ch1_Inv hV (by omega) (okCh_wire hok (fun f hf => by rw [hwr]; exact List.mem_cons_of_mem _ hf) (by rw [hwr] at hwl; simp at hwl; omega) hne) (Nat.le_refl _)
  have hR1 : RepM (ch1 s (2 * l + c) (wWire (sCh s (2 * l + c)) w)) (va_up Fi 0 (nI 0)) (u2 (shL M 29 (200 * (2 * l + c)) (200 * (2 * l + c) + ((cWire (sCh s (2 * l + c))).length - 1))) 28 (2 * l + c) (nI ((cWire (sCh s (2 * l + c))).length - 1))) Ml := rep_ch (Fi := (va_up Fi 0 (nI 0))) (show RepM s (va_up Fi 0 (nI 0)) M Ml from hR) (chB hV) (agr_take hwl) (by rw [hs2]; exact RC_take hwr hch)
  have hkj : (2 * l + 1 - c) ≠ (2 * l + c) := by omega
  have hck : sCh (ch1 s (2 * l + c) (wWire (sCh s (2 * l + c)) w)) (2 * l + 1 - c) = sCh s (2 * l + 1 - c) := ch1_ne hkj
  have hcj : sCh (ch1 s (2 * l + c) (wWire (sCh s (2 * l + c)) w)) (2 * l + c) = wWire (sCh s (2 * l + c)) w := ch1_at _ _ _
  have hsk : (sLn (ch1 s (2 * l + c) (wWire (sCh s (2 * l + c)) w)) ((2 * l + 1 - c) / 2)).isSome = true := by show (sLn s ((2 * l + 1 - c) / 2)).isSome = true; rw [show (2 * l + 1 - c) / 2 = l by omega]; exact hs
  have hbk := hV.bCh (2 * l + 1 - c)
  have hchk : RC true (sCh s (2 * l + 1 - c)) (2 * l + 1 - c) (u2 (shL M 29 (200 * (2 * l + c)) (200 * (2 * l + c) + ((cWire (sCh s (2 * l + c))).length - 1))) 28 (2 * l + c) (nI ((cWire (sCh s (2 * l + c))).length - 1))) := by have := hR1.ch (2 * l + 1 - c) (by omega); rw [hsk, hck] at this; exact this
  have hdec : encF (cSent (sCh s (2 * l + c))) (kd, se) < 2 ^ 30 ∧ encF (cSent (sCh s (2 * l + c))) (kd, se) / 2 ^ 28 = kd ∧ encF (cSent (sCh s (2 * l + c))) (kd, se) / 2 ^ 16 % 2 ^ 12 = se := by
    unfold encF
    by_cases h0 : kd = 0
    · rw [if_pos h0]
      have hx := hcB.2.2.2.1 _ (sent_get (serial := se) ⟨hf0.2.1, hf0.2.2.2 h0⟩)
      have := encK_lt (k := 0) (se := se) (m := ((cSent (sCh s (2 * l + c))).getD (se - 1) (0, 0)).1) (set := ((cSent (sCh s (2 * l + c))).getD (se - 1) (0, 0)).2) (by omega) (by have := hf0.2.2.1; omega) (by omega) (by omega)
      exact ⟨this.1, this.2.1.trans h0.symm, this.2.2.1⟩
    · rw [if_neg h0]
      have := encK_lt (k := kd) (se := se) (m := 0) (set := 0) hf0.1 (by have := hf0.2.2.1; omega) (by omega) (by omega)
      exact ⟨this.1, this.2.1, this.2.2.1⟩
  have hk3 : kd < 3 := hf0.1
  have hse1 : 1 ≤ se := hf0.2.1
  have hse9 : se ≤ 999 := hf0.2.2.1
  generalize hE : encF (cSent (sCh s (2 * l + c))) (kd, se) = E at hfr hdec
  generalize hMT : u2 (shL M 29 (200 * (2 * l + c)) (200 * (2 * l + c) + ((cWire (sCh s (2 * l + c))).length - 1))) 28 (2 * l + c) (nI ((cWire (sCh s (2 * l + c))).length - 1)) = MT at hR1 hchk
  refine CallS.of (Nat.le_of_ble_eq_true rfl) ?_
  refine wp_aload_n d_Mod_carry_0 rfl 0 rfl ?_
  refine wp_iload_n d_Mod_carry_1 rfl 1 rfl ?_
  refine wp_iload_n d_Mod_carry_2 rfl 2 rfl ?_
  refine wp_callV (r := 0) d_Mod_carry_3 (link_V (as := [.int (nI l), .int (nI c)]) (rest := []) (r := (R_Mod, T_Mod, 43)) d_Mod_carry_3 cal_Mod_isChannel wM_Mod_230 rfl hM_o rfl) cal_Mod_isChannel (c_Mod_isChannelT hI hL hx) (Nat.le_of_ble_eq_true rfl) ⟨Nat.le_of_ble_eq_true rfl, Nat.le_of_ble_eq_true rfl⟩ ?_
  refine wp_if_eqB (tgt := 22) d_Mod_carry_6 (by decide) (fun c => absurd c (by decide)) (fun _ => ?_)
  refine wp_aload_n d_Mod_carry_9 rfl 0 rfl ?_
  refine wm_get d_Mod_carry_10 28 (by decide) wF_Mod_81 rfl ?_
  refine wp_iconst (v := nI 2) d_Mod_carry_13 (by decide) ?_
  refine wp_iload_n d_Mod_carry_14 rfl 1 rfl ?_
  refine wp_imulN d_Mod_carry_15 ?_
  refine wp_iload_n d_Mod_carry_16 rfl 2 rfl ?_
  refine wp_iaddN d_Mod_carry_17 ?_
  refine wm_ild (j := 28) (x := (nI ((cWire (sCh s (2 * l + c))).length))) d_Mod_carry_18 hI (by decide) (by decide) (by show _ < 16; omega) (by decide) (hch.2.2.2.1) ?_
  refine wp_if_neN (tgt := 24) d_Mod_carry_19 (by decide) (by omega) (fun c19 => ?_) (fun c19 => ?_)
  · refine wp_iconst (v := nI 2) d_Mod_carry_24 (by decide) ?_
    refine wp_iload_n d_Mod_carry_25 rfl 1 rfl ?_
    refine wp_imulN d_Mod_carry_26 ?_
    refine wp_iload_n d_Mod_carry_27 rfl 2 rfl ?_
    refine wp_iaddN d_Mod_carry_28 ?_
    refine wp_istore_n (lv' := [(3, .int (nI ((2 * l) + c))), (0, .ref o), (1, .int (nI l)), (2, .int (nI c))]) d_Mod_carry_29 rfl (by decide) rfl ?_
    refine wp_iconst (v := nI 2) d_Mod_carry_30 (by decide) ?_
    refine wp_iload_n d_Mod_carry_31 rfl 2 rfl ?_
    refine wp_imulN d_Mod_carry_32 ?_
    refine wp_iconst (v := nI 1) d_Mod_carry_33 (by decide) ?_
    refine wp_iaddN d_Mod_carry_34 ?_
    refine wp_iload_n d_Mod_carry_35 rfl 3 rfl ?_
    refine wp_isubN d_Mod_carry_36 (by omega) ?_
    refine wp_istore (lv' := [(4, .int (nI (((2 * l) + 1) - c))), (3, .int (nI ((2 * l) + c))), (0, .ref o), (1, .int (nI l)), (2, .int (nI c))]) d_Mod_carry_37 (by decide) rfl ?_
    refine wp_aload_n d_Mod_carry_39 rfl 2 rfl ?_
    refine wm_get d_Mod_carry_40 29 (by decide) wF_Mod_84 rfl ?_
    refine wp_sipush (v := nI 200) d_Mod_carry_43 (by decide) ?_
    refine wp_iload_n d_Mod_carry_46 rfl 1 rfl ?_
    refine wp_imulN d_Mod_carry_47 ?_
    refine wm_ild (j := 29) (x := (nI E)) d_Mod_carry_48 hI (by decide) (by decide) (by show _ < 3200; omega) (by decide) (hfr) ?_
    refine wp_istore (lv' := [(5, .int (nI E)), (4, .int (nI (((2 * l) + 1) - c))), (3, .int (nI ((2 * l) + c))), (0, .ref o), (1, .int (nI l)), (2, .int (nI c))]) d_Mod_carry_49 (by decide) rfl ?_
    refine wp_aload_n d_Mod_carry_51 rfl 3 rfl ?_
    refine wp_iload_n d_Mod_carry_52 rfl 2 rfl ?_
    refine wp_callU (r := 0) d_Mod_carry_53 (link_V (as := [.int (nI ((2 * l) + c))]) (rest := []) (r := (R_Mod, T_Mod, 43)) d_Mod_carry_53 cal_Mod_takeFrame wM_Mod_240 rfl hM_o rfl) cal_Mod_takeFrame (c_Mod_takeFrame hI (by omega) hch.2.2.2.1 hwl (by rw [hwr]; exact Nat.succ_pos _)) (Nat.le_of_ble_eq_true rfl) ⟨Nat.le_of_ble_eq_true rfl, Nat.le_of_ble_eq_true rfl⟩ ?_
    rw [hMT]
    refine wp_iload d_Mod_carry_56 0 rfl ?_
    refine wp_bipush (v := nI 16) d_Mod_carry_58 (by decide) ?_
    refine wp_ishrN d_Mod_carry_60 (by omega) (by omega) ?_
    refine wp_sipush (v := nI 4095) d_Mod_carry_61 (by decide) ?_
    refine wp_iandM (c := 12) d_Mod_carry_64 (by omega) (by decide) ?_
    refine wp_toI (z := (nI se)) (congrArg nI hdec.2.2) ?_
    refine wp_istore (lv' := [(6, .int (nI se)), (5, .int (nI E)), (4, .int (nI (((2 * l) + 1) - c))), (3, .int (nI ((2 * l) + c))), (0, .ref o), (1, .int (nI l)), (2, .int (nI c))]) d_Mod_carry_65 (by decide) rfl ?_
    refine wp_iload d_Mod_carry_67 1 rfl ?_
    refine wp_bipush (v := nI 28) d_Mod_carry_69 (by decide) ?_
    refine wp_ishrN d_Mod_carry_71 (by omega) (by omega) ?_
    refine wp_toI (z := (nI kd)) (congrArg nI hdec.2.1) ?_
    refine wp_istore (lv' := [(7, .int (nI kd)), (6, .int (nI se)), (5, .int (nI E)), (4, .int (nI (((2 * l) + 1) - c))), (3, .int (nI ((2 * l) + c))), (0, .ref o), (1, .int (nI l)), (2, .int (nI c))]) d_Mod_carry_72 (by decide) rfl ?_
    refine wp_iload d_Mod_carry_74 0 rfl ?_
    refine wp_if_neN (tgt := 90) d_Mod_carry_76 (by decide) (by omega) (fun c76 => ?_) (fun c76 => ?_)
    · refine wp_aload_n d_Mod_carry_90 rfl 5 rfl ?_
      refine wp_iload d_Mod_carry_91 3 rfl ?_
      refine wp_iload d_Mod_carry_93 1 rfl ?_
      refine wp_callV (r := 0) d_Mod_carry_95 (link_V (as := [.int (nI (((2 * l) + 1) - c)), .int (nI se)]) (rest := []) (r := (R_Mod, T_Mod, 43)) d_Mod_carry_95 cal_Mod_among wM_Mod_247 rfl hM_o rfl) cal_Mod_among (c_Mod_among hI (by omega) (by omega) (hchk.1 rfl).1 (by have := hbk.2.2.1; omega) hchk.2.1 ⟨hbk.1, hbk.2.1⟩) (Nat.le_of_ble_eq_true rfl) ⟨Nat.le_of_ble_eq_true rfl, Nat.le_of_ble_eq_true rfl⟩ ?_
      by_cases hin : (cSent (sCh s (2 * l + 1 - c))).length - cKept (sCh s (2 * l + 1 - c)) < se ∧ se ≤ (cSent (sCh s (2 * l + 1 - c))).length
      · refine wp_toI (z := nI (se - ((cSent (sCh s (2 * l + 1 - c))).length - cKept (sCh s (2 * l + 1 - c))) - 1)) (by rw [amI, if_pos hin]) ?_
        have hb1 := hbk.2.1
        have hb2 := hbk.1
        refine wp_istore (lv' := [(8, .int (nI (se - ((cSent (sCh s (2 * l + 1 - c))).length - cKept (sCh s (2 * l + 1 - c))) - 1))), (7, .int (nI kd)), (6, .int (nI se)), (5, .int (nI E)), (4, .int (nI (((2 * l) + 1) - c))), (3, .int (nI ((2 * l) + c))), (0, .ref o), (1, .int (nI l)), (2, .int (nI c))]) d_Mod_carry_98 (by decide) rfl ?_
        refine wp_iload d_Mod_carry_100 1 rfl ?_
        refine wp_iconst (v := nI 1) d_Mod_carry_102 (by decide) ?_
        refine wp_neN (tgt := 130) d_Mod_carry_103 (by decide) (by omega) (by omega) (fun c103 => ?_) (fun c103 => ?_)
        · obtain rfl : kd = 2 := by omega
          have hc1 : carryS s l (2 * l + c) (2 * l + 1 - c) (2, se) w = (5, ch1 (ch1 s (2 * l + c) (wWire (sCh s (2 * l + c)) w)) (2 * l + 1 - c) (againC (sCh (ch1 s (2 * l + c) (wWire (sCh s (2 * l + c)) w)) (2 * l + 1 - c)) se (sMin s))) := by unfold carryS; simp only [show ¬ (2 : Nat) = 0 by decide, show ¬ (2 : Nat) = 1 by decide, if_false]
          rw [hck] at hc1
          rw [show againC (sCh s (2 * l + 1 - c)) se (sMin s) = layAll (sMin s) ((cSent (sCh s (2 * l + 1 - c))).length + 1 - se) (se - ((cSent (sCh s (2 * l + 1 - c))).length - cKept (sCh s (2 * l + 1 - c))) - 1) (sCh s (2 * l + 1 - c)) by unfold againC; rw [if_pos hin]] at hc1
          refine wp_iload d_Mod_carry_130 0 rfl ?_
          refine wp_istore (lv' := [(9, .int (nI (se - ((cSent (sCh s (2 * l + 1 - c))).length - cKept (sCh s (2 * l + 1 - c))) - 1))), (8, .int (nI (se - ((cSent (sCh s (2 * l + 1 - c))).length - cKept (sCh s (2 * l + 1 - c))) - 1))), (7, .int (nI 2)), (6, .int (nI se)), (5, .int (nI E)), (4, .int (nI (((2 * l) + 1) - c))), (3, .int (nI ((2 * l) + c))), (0, .ref o), (1, .int (nI l)), (2, .int (nI c))]) d_Mod_carry_132 (by decide) rfl ?_
          refine wp_lv [0, 5, 7] rfl ?_
          refine l_Mod_carL (s := (ch1 s (2 * l + c) (wWire (sCh s (2 * l + c)) w))) (k := (2 * l + 1 - c)) (e0 := layAll (sMin s) ((cSent (sCh s (2 * l + 1 - c))).length + 1 - se) (se - ((cSent (sCh s (2 * l + 1 - c))).length - cKept (sCh s (2 * l + 1 - c))) - 1) (sCh s (2 * l + 1 - c))) hI (by omega) (fun c => hV1.bCh c) hsk ⟨Nat.le_of_ble_eq_true rfl, Nat.le_of_ble_eq_true rfl⟩ (fun X hX => ?_) (cKept (sCh s (2 * l + 1 - c)) + 1) _ (sCh s (2 * l + 1 - c)) MT (by rw [hck]; omega) (by rw [hck]; omega) (by rw [hck]) hbk ?_ (by rw [← hck, ch1_self]; exact hR1)
          · refine wp_iconst (v := nI 5) d_Mod_carry_165 (by decide) ?_
            exact wp_iret d_Mod_carry_166 rfl ⟨by rw [hc1], _, _, Ml, rfl, by rw [hc1]; exact hX, rfl⟩
          · rw [hck, show cKept (sCh s (2 * l + 1 - c)) - (se - ((cSent (sCh s (2 * l + 1 - c))).length - cKept (sCh s (2 * l + 1 - c))) - 1) = (cSent (sCh s (2 * l + 1 - c))).length + 1 - se by omega]
            rfl
        · obtain rfl : kd = 1 := c103
          have hc1 : carryS s l (2 * l + c) (2 * l + 1 - c) (1, se) w = (4, ch1 (ch1 s (2 * l + c) (wWire (sCh s (2 * l + c)) w)) (2 * l + 1 - c) (freeC (sCh (ch1 s (2 * l + c) (wWire (sCh s (2 * l + c)) w)) (2 * l + 1 - c)) se)) := by unfold carryS; simp only [show ¬ (1 : Nat) = 0 by decide, if_false, if_true]
          rw [hck] at hc1
          rw [show freeC (sCh s (2 * l + 1 - c)) se = wKept (sCh s (2 * l + 1 - c)) (cKept (sCh s (2 * l + 1 - c)) - (se - ((cSent (sCh s (2 * l + 1 - c))).length - cKept (sCh s (2 * l + 1 - c))) - 1 + 1)) by unfold freeC; rw [if_pos hin, show (cSent (sCh s (2 * l + 1 - c))).length - se = cKept (sCh s (2 * l + 1 - c)) - (se - ((cSent (sCh s (2 * l + 1 - c))).length - cKept (sCh s (2 * l + 1 - c))) - 1 + 1) by omega]] at hc1
          refine wp_iconst (v := nI 0) d_Mod_carry_106 (by decide) ?_
          refine wp_istore (lv' := [(9, .int (nI 0)), (8, .int (nI (se - ((cSent (sCh s (2 * l + 1 - c))).length - cKept (sCh s (2 * l + 1 - c))) - 1))), (7, .int (nI 1)), (6, .int (nI se)), (5, .int (nI E)), (4, .int (nI (((2 * l) + 1) - c))), (3, .int (nI ((2 * l) + c))), (0, .ref o), (1, .int (nI l)), (2, .int (nI c))]) d_Mod_carry_107 (by decide) rfl ?_
          refine wp_lv [0, 1, 5, 7] rfl ?_
          refine l_Mod_carF (s := (ch1 s (2 * l + c) (wWire (sCh s (2 * l + c)) w))) (k := (2 * l + 1 - c)) hI (by omega) (by rw [hck]; omega) (fun c => hV1.bCh c) ⟨Nat.le_of_ble_eq_true rfl, Nat.le_of_ble_eq_true rfl⟩ (fun X hX => ?_) (se - ((cSent (sCh s (2 * l + 1 - c))).length - cKept (sCh s (2 * l + 1 - c))) - 1 + 2) 0 MT (by omega) (by omega) (by rw [Nat.sub_zero, show wKept (sCh (ch1 s (2 * l + c) (wWire (sCh s (2 * l + c)) w)) (2 * l + 1 - c)) (cKept (sCh (ch1 s (2 * l + c) (wWire (sCh s (2 * l + c)) w)) (2 * l + 1 - c))) = sCh (ch1 s (2 * l + c) (wWire (sCh s (2 * l + c)) w)) (2 * l + 1 - c) from rfl, ch1_self]; exact hR1)
          rw [hck] at hX
          refine wp_iconst (v := nI 4) d_Mod_carry_128 (by decide) ?_
          exact wp_iret d_Mod_carry_129 rfl ⟨by rw [hc1], _, _, Ml, rfl, by rw [hc1]; exact hX, rfl⟩
      · refine wp_toI (z := -1) (by rw [amI, if_neg hin]) ?_
        refine wp_istore (lv' := [(8, .int (-1)), (7, .int (nI kd)), (6, .int (nI se)), (5, .int (nI E)), (4, .int (nI (((2 * l) + 1) - c))), (3, .int (nI ((2 * l) + c))), (0, .ref o), (1, .int (nI l)), (2, .int (nI c))]) d_Mod_carry_98 (by decide) rfl ?_
        refine wp_iload d_Mod_carry_100 1 rfl ?_
        refine wp_iconst (v := nI 1) d_Mod_carry_102 (by decide) ?_
        refine wp_neN (tgt := 130) d_Mod_carry_103 (by decide) (by omega) (by omega) (fun c103 => ?_) (fun c103 => ?_)
        · obtain rfl : kd = 2 := by omega
          have hc1 : carryS s l (2 * l + c) (2 * l + 1 - c) (2, se) w = (5, ch1 (ch1 s (2 * l + c) (wWire (sCh s (2 * l + c)) w)) (2 * l + 1 - c) (againC (sCh (ch1 s (2 * l + c) (wWire (sCh s (2 * l + c)) w)) (2 * l + 1 - c)) se (sMin s))) := by unfold carryS; simp only [show ¬ (2 : Nat) = 0 by decide, show ¬ (2 : Nat) = 1 by decide, if_false]
          rw [hck] at hc1
          rw [show againC (sCh s (2 * l + 1 - c)) se (sMin s) = sCh s (2 * l + 1 - c) by unfold againC; rw [if_neg hin], ← hck, ch1_self] at hc1
          refine wp_iload d_Mod_carry_130 0 rfl ?_
          refine wp_istore (lv' := [(9, .int (-1)), (8, .int (-1)), (7, .int (nI 2)), (6, .int (nI se)), (5, .int (nI E)), (4, .int (nI (((2 * l) + 1) - c))), (3, .int (nI ((2 * l) + c))), (0, .ref o), (1, .int (nI l)), (2, .int (nI c))]) d_Mod_carry_132 (by decide) rfl ?_
          refine wp_iload d_Mod_carry_134 0 rfl ?_
          refine wp_if_lt (tgt := 165) d_Mod_carry_136 (by decide) (fun _ => ?_) (fun c => absurd (by decide) c)
          refine wp_iconst (v := nI 5) d_Mod_carry_165 (by decide) ?_
          exact wp_iret d_Mod_carry_166 rfl ⟨by rw [hc1], _, _, Ml, rfl, by rw [hc1]; exact hR1, rfl⟩
        · obtain rfl : kd = 1 := c103
          have hc1 : carryS s l (2 * l + c) (2 * l + 1 - c) (1, se) w = (4, ch1 (ch1 s (2 * l + c) (wWire (sCh s (2 * l + c)) w)) (2 * l + 1 - c) (freeC (sCh (ch1 s (2 * l + c) (wWire (sCh s (2 * l + c)) w)) (2 * l + 1 - c)) se)) := by unfold carryS; simp only [show ¬ (1 : Nat) = 0 by decide, if_false, if_true]
          rw [hck] at hc1
          rw [show freeC (sCh s (2 * l + 1 - c)) se = sCh s (2 * l + 1 - c) by unfold freeC; rw [if_neg hin], ← hck, ch1_self] at hc1
          refine wp_iconst (v := nI 0) d_Mod_carry_106 (by decide) ?_
          refine wp_istore (lv' := [(9, .int (nI 0)), (8, .int (-1)), (7, .int (nI 1)), (6, .int (nI se)), (5, .int (nI E)), (4, .int (nI (((2 * l) + 1) - c))), (3, .int (nI ((2 * l) + c))), (0, .ref o), (1, .int (nI l)), (2, .int (nI c))]) d_Mod_carry_107 (by decide) rfl ?_
          refine wp_iload d_Mod_carry_109 0 rfl ?_
          refine wp_iload d_Mod_carry_111 1 rfl ?_
          refine wp_icmp_gt (tgt := 128) d_Mod_carry_113 (by decide) (fun _ => ?_) (fun c => absurd c (by decide))
          refine wp_iconst (v := nI 4) d_Mod_carry_128 (by decide) ?_
          exact wp_iret d_Mod_carry_129 rfl ⟨by rw [hc1], _, _, Ml, rfl, by rw [hc1]; exact hR1, rfl⟩
    · subst c76
      have hc0 : carryS s l (2 * l + c) (2 * l + 1 - c) (0, se) w = meetS (ch1 s (2 * l + c) (wWire (sCh s (2 * l + c)) w)) l (2 * l + c) (2 * l + 1 - c) se := by unfold carryS; simp only [if_true]
      refine wp_aload_n d_Mod_carry_79 rfl 5 rfl ?_
      refine wp_iload_n d_Mod_carry_80 rfl 6 rfl ?_
      refine wp_iload_n d_Mod_carry_81 rfl 4 rfl ?_
      refine wp_iload d_Mod_carry_82 3 rfl ?_
      refine wp_iload d_Mod_carry_84 2 rfl ?_
      refine wp_callEV (k' := 0) (n' := 0) (r := 0) d_Mod_carry_86 (link_V (as := [.int (nI l), .int (nI ((2 * l) + c)), .int (nI (((2 * l) + 1) - c)), .int (nI E)]) (rest := []) (r := (R_Mod, T_Mod, 43)) d_Mod_carry_86 cal_Mod_message wM_Mod_243 rfl hM_o rfl) cal_Mod_message (c_Mod_message (e := E) hI hR1 hV1 hl (by omega) (by omega) hkj (by omega) (by omega) hsv (by rw [hcj]; exact ⟨hf0.2.1, hf0.2.2.2 rfl⟩) (by rw [hcj, ← hE]; rfl)) (Nat.le_of_ble_eq_true rfl) ⟨Nat.le_of_ble_eq_true rfl, Nat.le_of_ble_eq_true rfl⟩ (fun h' q86 => ?_)
      obtain ⟨F2, X2, rfl, hX2, hF2⟩ := q86
      exact wp_iret d_Mod_carry_89 rfl ⟨by rw [hc0], F2, X2, Ml, rfl, by rw [hc0]; exact hX2, hF2⟩
  · exact absurd c19 (by rw [hwr]; exact Nat.succ_ne_zero _)
theorem c_Mod_carry {G : Gt} {o : Nat} {A : Nat → Nat} {Fi : Nat → Int32} {M : Nat → Nat → Int32} {Ml : Nat → Nat → Int64} {s : Sa} {n : Nat} (hI : mInj o A) (hR : RepM s Fi M Ml) (hV : Inv n s) (x z : Int32) : CallE G m_Mod_carry 3 56 [.ref o, .int x, .int z] (hM o A Fi M Ml) 0 0 (some (.int (stCarry s x z).2.1)) (RefOK o A (stCarry s x z)) := by
  cases hx : chOK s x z with
  | false =>
    rw [show stCarry s x z = (1, 0, s) by unfold stCarry; rw [hx]; rfl]
    exact CallR.E (CallR.up (c_Mod_carry0 hI hR.ln hx) (by decide) (by decide)) ⟨_, _, _, rfl, hR, rfl⟩
  | true =>
    obtain ⟨l, c, hl, hc, rfl, rfl, hs⟩ := chOK_of hx
    have e0 : stCarry s (nI l) (nI c) = match cWire (sCh s (2 * l + c)) with
      | [] => (0, 0, s)
      | f :: w => (0, nI (carryS s l (2 * l + c) (2 * l + 1 - c) f w).1, (carryS s l (2 * l + c) (2 * l + 1 - c) f w).2) := by
      unfold stCarry
      rw [if_pos hx, nN_nI (by omega), nN_nI (by omega)]
      rfl
    rw [e0]
    cases hwr : cWire (sCh s (2 * l + c)) with
    | nil =>
      have hn := (hR.ch (2 * l + c) (by omega)).2.2.2.1
      rw [hwr] at hn
      exact CallR.E (CallR.up (c_Mod_carry1 hI hR.ln hl hc hx hn) (by decide) (by decide)) ⟨_, _, _, rfl, hR, rfl⟩
    | cons f w => exact c_Mod_carry2 hI hR hV hl hc hx hs hwr
end Mod30
