section Cls14
/-- what is never written again stands as it stood -/
def Kp (K : Nat → Nat) (I : Nat → Nat → Int32) (R : Nat → Nat → Option Nat) (K' : Nat → Nat) (I' : Nat → Nat → Int32) (R' : Nat → Nat → Option Nat) : Prop := ∀ q, K q ≠ 0 → K' q = K q ∧ R' 14 q = R 14 q ∧ R' 33 q = R 33 q ∧ I' 15 q = I 15 q ∧ I' 16 q = I 16 q ∧ I' 32 q = I 32 q ∧ I' 34 q = I 34 q
def NetK (Γ : Gm) (s : Sa) (K : Nat → Nat) (I : Nat → Nat → Int32) (R : Nat → Nat → Option Nat) (h' : AHp) : Prop := ∃ (ρ' K' N' : Nat → Nat) (I' : Nat → Nat → Int32) (R' : Nat → Nat → Option Nat) (L' : Nat → Nat → Int64) (E' : Nat → Nat → Int32) (El' : Nat → Nat → Int64) (Er' : Nat → Nat → Option Nat), h' = hN K' N' I' R' L' E' El' Er' ∧ RepN Γ ρ' K' N' I' R' L' E' El' Er' s ∧ Kp K I R K' I' R'
theorem Kp_0 {K : Nat → Nat} {I : Nat → Nat → Int32} {R : Nat → Nat → Option Nat} : Kp K I R K I R := fun _ _ => ⟨rfl, rfl, rfl, rfl, rfl, rfl, rfl⟩
theorem Kp.tr {K K1 K2 : Nat → Nat} {I I1 I2 : Nat → Nat → Int32} {R R1 R2 : Nat → Nat → Option Nat} (h : Kp K I R K1 I1 R1) (h2 : Kp K1 I1 R1 K2 I2 R2) : Kp K I R K2 I2 R2 := fun q hq => by
  obtain ⟨a1, a2, a3, a4, a5, a6, a7⟩ := h q hq
  obtain ⟨b1, b2, b3, b4, b5, b6, b7⟩ := h2 q (by rw [a1]; exact hq)
  exact ⟨b1.trans a1, b2.trans a2, b3.trans a3, b4.trans a4, b5.trans a5, b6.trans a6, b7.trans a7⟩
theorem Kp_f {K : Nat → Nat} {I I' : Nat → Nat → Int32} {R : Nat → Nat → Option Nat} {f : Nat} (h : fI f I I') : Kp K I R K I' R := fun q _ => ⟨rfl, rfl, rfl, h 15 q (Or.inr ⟨by decide, by decide⟩), h 16 q (Or.inr ⟨by decide, by decide⟩), h 32 q (Or.inr ⟨by decide, by decide⟩), h 34 q (Or.inr ⟨by decide, by decide⟩)⟩
theorem Kp_u {K : Nat → Nat} {I : Nat → Nat → Int32} {R : Nat → Nat → Option Nat} {g a : Nat} {x : Int32} (h : g ≠ 15 ∧ g ≠ 16 ∧ g ≠ 32 ∧ g ≠ 34) : Kp K I R K (u2 I g a x) R := fun q _ => ⟨rfl, rfl, rfl, by rw [u2_ne _ _ (by omega)], by rw [u2_ne _ _ (by omega)], by rw [u2_ne _ _ (by omega)], by rw [u2_ne _ _ (by omega)]⟩
theorem NetK.tr {Γ : Gm} {s : Sa} {K K1 : Nat → Nat} {I I1 : Nat → Nat → Int32} {R R1 : Nat → Nat → Option Nat} {h' : AHp} (h : Kp K I R K1 I1 R1) (h2 : NetK Γ s K1 I1 R1 h') : NetK Γ s K I R h' := by
  obtain ⟨a, b, c, d, e, f, g, i, j, e1, e2, e3⟩ := h2
  exact ⟨a, b, c, d, e, f, g, i, j, e1, e2, h.tr e3⟩
theorem NetK.to {Γ : Gm} {s : Sa} {K : Nat → Nat} {I : Nat → Nat → Int32} {R : Nat → Nat → Option Nat} {h' : AHp} (h2 : NetK Γ s K I R h') : NetOK (Γ 0 0) s h' := by
  obtain ⟨a, b, c, d, e, f, g, i, j, e1, e2, e3⟩ := h2
  exact ⟨Γ, a, b, c, d, e, f, g, i, j, e1, e2, rfl⟩
theorem RepN.k0 {Γ : Gm} {ρ : Nat → Nat} {K N : Nat → Nat} {I : Nat → Nat → Int32} {R : Nat → Nat → Option Nat} {L : Nat → Nat → Int64} {E : Nat → Nat → Int32} {El : Nat → Nat → Int64} {Er : Nat → Nat → Option Nat} {s : Sa} (hR : RepN Γ ρ K N I R L E El Er s) : NetK Γ s K I R (hN K N I R L E El Er) := ⟨ρ, K, N, I, R, L, E, El, Er, rfl, hR, Kp_0⟩
theorem dne2 {K : Nat → Nat} {q p : Nat} (hq : K q = 0) (hp : K p ≠ 0) : p ≠ q := fun e => hp (by rw [e]; exact hq)
/-- a new frame -/
theorem RepN.newF {Γ : Gm} {ρ : Nat → Nat} {K N : Nat → Nat} {I : Nat → Nat → Int32} {R : Nat → Nat → Option Nat} {L : Nat → Nat → Int64} {E : Nat → Nat → Int32} {El : Nat → Nat → Int64} {Er : Nat → Nat → Option Nat} {s : Sa} (hR : RepN Γ ρ K N I R L E El Er s) {q : Nat} (hq : K q = 0) (x y : Int32) (z : Option Nat) : RepN Γ ρ (va_up K q (6 + 1)) N (u2 (u2 I 32 q x) 34 q y) (u2r R 33 q z) L E El Er s := by
  refine hR.grow ⟨fun p hp => ⟨by simp [va_up, dne2 hq hp], rfl, rfl⟩, fun g p _ hp => by rw [u2_q _ _ (dne2 hq hp), u2_q _ _ (dne2 hq hp)], fun g p _ hp => u2r_q _ _ (dne2 hq hp), fun _ _ _ => rfl, fun _ _ _ => rfl, fun _ _ _ => rfl, fun _ _ _ => rfl⟩ ?_
  exact DF.pI (DF.pR (DF.pI (DF.pK hR.df (by decide)) (by simp [va_up])) (by simp [va_up])) (by simp [va_up])
theorem Kp_newF {K N : Nat → Nat} {I : Nat → Nat → Int32} {R : Nat → Nat → Option Nat} {L : Nat → Nat → Int64} {E : Nat → Nat → Int32} {El : Nat → Nat → Int64} {Er : Nat → Nat → Option Nat} {q : Nat} (hq : K q = 0) (x y : Int32) (z : Option Nat) : Kp K I R (va_up K q (6 + 1)) (u2 (u2 I 32 q x) 34 q y) (u2r R 33 q z) := fun p hp =>
  ⟨by simp [va_up, dne2 hq hp], u2r_q _ _ (dne2 hq hp), u2r_q _ _ (dne2 hq hp), by rw [u2_q _ _ (dne2 hq hp), u2_q _ _ (dne2 hq hp)], by rw [u2_q _ _ (dne2 hq hp), u2_q _ _ (dne2 hq hp)], by rw [u2_q _ _ (dne2 hq hp), u2_q _ _ (dne2 hq hp)], by rw [u2_q _ _ (dne2 hq hp), u2_q _ _ (dne2 hq hp)]⟩
theorem fr1_new {Γ : Gm} {K : Nat → Nat} {I : Nat → Nat → Int32} {R : Nat → Nat → Option Nat} {sent : List (Nat × Nat)} {q n : Nat} (b : Bool) : fr1 Γ K (u2 (u2 I 32 q (nI n)) 34 q (bI b)) (u2r R 33 q none) sent q ((if b then 2 else 1), n) := by
  refine ⟨by rw [u2_ne _ _ (by decide), u2_at, if_pos rfl], fun h0 => ?_, fun _ => ⟨by rw [u2r_at, if_pos rfl], by rw [u2_at, if_pos rfl]; cases b <;> rfl⟩⟩
  cases b <;> cases h0
theorem wWire_lay (d : Ch) (f : Nat × Nat) : wWire d (if (cWire d).length = 200 then cWire d else cWire d ++ [f]) = layC d f := by
  unfold layC wWire
  by_cases h : (cWire d).length = 200
  · rw [if_pos h, if_pos h]
  · rw [if_neg h, if_neg h]
def pmC (d : Ch) (f : Nat × Nat) (m : Nat) : Ch := (cSent (layC d f), cKept (layC d f), cExp (layC d f), cWire (layC d f), m, cAsk (layC d f))
theorem layKept_pm (d : Ch) (k m : Nat) : layKeptC d k m = pmC d (0, (cSent d).length - cKept d + k + 1) m := rfl
set_option maxRecDepth 20000 in
theorem c_Chn_putMessage {G : Gt} {K N : Nat → Nat} {I : Nat → Nat → Int32} {R : Nat → Nat → Option Nat} {L : Nat → Nat → Int64} {E : Nat → Nat → Int32} {El : Nat → Nat → Int64} {Er : Nat → Nat → Option Nat} {Γ : Gm} {ρ : Nat → Nat} {s : Sa} (hR : RepN Γ ρ K N I R L E El Er s) {c : Nat} (hc : c < 16) (hs : (sLn s (c / 2)).isSome = true) {a m : Nat} {f : Nat × Nat} (ha : K a = 6 + 1) (hf : fr1 Γ K I R (cSent (sCh s c)) a f) : CallE G m_Chn_putMessage 2 28 [.ref (Γ 7 c), .ref a, .int (nI m)] (hN K N I R L E El Er) 0 0 none (NetK Γ (ch1 s c (pmC (sCh s c) f m)) K I R) := by
  refine CallS.of (Nat.le_of_ble_eq_true rfl) ?_
  refine wp_aload_n d_Chn_putMessage_0 rfl 0 rfl ?_
  refine wn_get_Chn d_Chn_putMessage_1 ((hR.ci c hc hs).1) 2 (by decide) wF_Chn_26 rfl ?_
  refine wp_toVR (o := some (Γ 12 c)) (z := .ref (Γ 12 c)) ((hR.ci c hc hs).2.2.2.2.1) rfl ?_
  refine wp_aload_n d_Chn_putMessage_4 rfl 1 rfl ?_
  refine wp_callEU (k' := 0) (n' := 0) (r := 0) d_Chn_putMessage_5 (link_V (as := [.ref a]) (rest := []) (r := (R_Frs, T_Frs, 3)) d_Chn_putMessage_5 cal_Frs_add wM_Chn_75 rfl (hN_o ((rg_n ((hR.ri c hc hs).2.2.2.2.2)).1) (by decide)) rfl) cal_Frs_add (((hR.ri c hc hs).2.2.2.2.2).add ha hf) (Nat.le_of_ble_eq_true rfl) ⟨Nat.le_of_ble_eq_true rfl, Nat.le_of_ble_eq_true rfl⟩ (fun h' q5 => ?_)
  obtain ⟨I1, Er1, rfl, h1, h2, h3⟩ := q5
  have hR1 := hR.wire hc hs h1 h2 h3
  rw [wWire_lay] at hR1
  refine wp_aload_n d_Chn_putMessage_8 rfl 0 rfl ?_
  refine wp_iload_n d_Chn_putMessage_9 rfl 2 rfl ?_
  refine wn_put_Chn (ty := t_Chn 5) (I' := u2 I1 12 (Γ 7 c) (nI m)) (R' := R) (L' := L) d_Chn_putMessage_10 ((hR.ci c hc hs).1) 5 (by decide) wF_Chn_82 rfl (t_Chn_ok 5 (by decide)) rfl rfl sF_12 (oI _ _ _ 12 _) ?_
  exact wp_vret d_Chn_putMessage_13 rfl ⟨rfl, _, _, _, _, _, _, _, _, _, rfl, by have h9 := hR1.num (d := pmC (sCh s c) f m) hc hs (Or.inr (Or.inl ⟨rfl, rfl, rfl, by rw [sCh_at]; rfl⟩)); rw [ch1_ch1] at h9; exact h9, (Kp_f h1).tr (Kp_u (by decide))⟩
set_option maxRecDepth 20000 in
theorem c_Chn_putAcknowledgement {G : Gt} {K N : Nat → Nat} {I : Nat → Nat → Int32} {R : Nat → Nat → Option Nat} {L : Nat → Nat → Int64} {E : Nat → Nat → Int32} {El : Nat → Nat → Int64} {Er : Nat → Nat → Option Nat} {Γ : Gm} {ρ : Nat → Nat} {s : Sa} (hR : RepN Γ ρ K N I R L E El Er s) {c : Nat} (hc : c < 16) (hs : (sLn s (c / 2)).isSome = true) {n : Nat} : CallE G m_Chn_putAcknowledgement 2 29 [.ref (Γ 7 c), .int (nI n)] (hN K N I R L E El Er) 1 3 none (NetK Γ (ch1 s c (layC (sCh s c) (1, n))) K I R) := by
  refine CallS.of (Nat.le_of_ble_eq_true rfl) ?_
  refine wp_aload_n d_Chn_putAcknowledgement_0 rfl 0 rfl ?_
  refine wn_get_Chn d_Chn_putAcknowledgement_1 ((hR.ci c hc hs).1) 2 (by decide) wF_Chn_26 rfl ?_
  refine wp_toVR (o := some (Γ 12 c)) (z := .ref (Γ 12 c)) ((hR.ci c hc hs).2.2.2.2.1) rfl ?_
  refine wn_new_Frm d_Chn_putAcknowledgement_4 wC_Chn_70 (hR.df) (fun q1 hq1 => ?_)
  refine wp_dup d_Chn_putAcknowledgement_7 rfl ?_
  refine wp_iload_n d_Chn_putAcknowledgement_8 rfl 1 rfl ?_
  refine wp_null d_Chn_putAcknowledgement_9 ?_
  refine wp_iconst (v := nI 0) d_Chn_putAcknowledgement_10 (by decide) ?_
  refine wp_callU (r := 2) d_Chn_putAcknowledgement_11 (link_I (as := [.int (nI n), .null, .int (bI false)]) (rest := [.ref q1, .ref (Γ 12 c)]) d_Chn_putAcknowledgement_11 cal_Frm_init rfl wM_Chn_72 rfl) cal_Frm_init (c_Frm_init0 (se := nI n) (b := false) (kat _ _ _)) (Nat.le_of_ble_eq_true rfl) ⟨Nat.le_of_ble_eq_true rfl, Nat.le_of_ble_eq_true rfl⟩ ?_
  have hRn := hR.newF hq1 (nI n) (bI false) none
  refine wp_callEU (k' := 0) (n' := 0) (r := 0) d_Chn_putAcknowledgement_14 (link_V (as := [.ref q1]) (rest := []) (r := (R_Frs, T_Frs, 3)) d_Chn_putAcknowledgement_14 cal_Frs_add wM_Chn_75 rfl (hN_o (kup hq1 ((rg_n ((hR.ri c hc hs).2.2.2.2.2)).1)) (by decide)) rfl) cal_Frs_add ((hRn.ri c hc hs).2.2.2.2.2.add (kat _ _ _) (fr1_new false)) (Nat.le_of_ble_eq_true rfl) ⟨Nat.le_of_ble_eq_true rfl, Nat.le_of_ble_eq_true rfl⟩ (fun h' q14 => ?_)
  obtain ⟨I1, Er1, rfl, h1, h2, h3⟩ := q14
  have hR2 := hRn.wire hc hs h1 h2 h3
  rw [wWire_lay] at hR2
  exact wp_vret d_Chn_putAcknowledgement_17 rfl ⟨rfl, _, _, _, _, _, _, _, _, _, rfl, hR2, (Kp_newF (L := L) (N := N) (E := E) (El := El) (Er := Er) hq1 _ _ _).tr (Kp_f h1)⟩
theorem ak_3 (m : Nat) : nI m - (-3) = nI (m + 3) := by
  rw [show (-3 : Int32) = 0 - nI 3 from rfl, Int32.sub_eq_add_neg, Int32.zero_sub, Int32.neg_neg, nI_add]
/-- it is not yet time for another request -/
def askNo (o : Option Nat) (m : Nat) : Bool := match o with
  | none => false
  | some t => decide (m < t + 3)
set_option maxRecDepth 20000 in
theorem c_Chn_putRequest0 {G : Gt} {K N : Nat → Nat} {I : Nat → Nat → Int32} {R : Nat → Nat → Option Nat} {L : Nat → Nat → Int64} {E : Nat → Nat → Int32} {El : Nat → Nat → Int64} {Er : Nat → Nat → Option Nat} {Γ : Gm} {ρ : Nat → Nat} {s : Sa} (hR : RepN Γ ρ K N I R L E El Er s) {c : Nat} (hc : c < 16) (hs : (sLn s (c / 2)).isSome = true) {n m t : Nat} (hm : m < 2 ^ 30) (ht : cAsk (sCh s (otC c)) = some t) (htm : t ≤ m) (hlt : m < t + 3) : CallE G m_Chn_putRequest 0 0 [.ref (Γ 7 c), .int (nI n), .int (nI m)] (hN K N I R L E El Er) 1 3 none (NetK Γ (s) K I R) := by
  refine CallS.of (Nat.le_of_ble_eq_true rfl) ?_
  refine wp_iload_n d_Chn_putRequest_0 rfl 2 rfl ?_
  refine wp_aload_n d_Chn_putRequest_1 rfl 0 rfl ?_
  refine wn_get_Chn d_Chn_putRequest_2 ((hR.ci c hc hs).1) 6 (by decide) wF_Chn_36 rfl ?_
  refine wp_toI (z := (nI t)) (((hR.ci c hc hs).2.2.2.2.2.2.2.2.2.2).trans (by rw [ht]; rfl)) ?_
  refine wp_isubN d_Chn_putRequest_5 (by omega) ?_
  refine wp_iconst (v := nI 3) d_Chn_putRequest_6 (by decide) ?_
  refine wp_ltN (tgt := 32) d_Chn_putRequest_7 (by decide) (by omega) (by omega) (fun c7 => ?_) (fun c7 => ?_)
  · exact wp_vret d_Chn_putRequest_32 rfl ⟨rfl, hR.k0⟩
  · exact absurd c7 (by omega)
set_option maxRecDepth 20000 in
theorem c_Chn_putRequest1 {G : Gt} {K N : Nat → Nat} {I : Nat → Nat → Int32} {R : Nat → Nat → Option Nat} {L : Nat → Nat → Int64} {E : Nat → Nat → Int32} {El : Nat → Nat → Int64} {Er : Nat → Nat → Option Nat} {Γ : Gm} {ρ : Nat → Nat} {s : Sa} (hR : RepN Γ ρ K N I R L E El Er s) {c : Nat} (hc : c < 16) (hs : (sLn s (c / 2)).isSome = true) {n m t : Nat} (hm : m < 2 ^ 30) (ht : cAsk (sCh s (otC c)) = some t) (htm : t ≤ m) (hlt : ¬ m < t + 3) : CallE G m_Chn_putRequest 2 29 [.ref (Γ 7 c), .int (nI n), .int (nI m)] (hN K N I R L E El Er) 1 3 none (NetK Γ (ch1 (ch1 s (otC c) (wAsk (sCh s (otC c)) (some m))) c (layC (sCh s c) (2, n))) K I R) := by
  refine CallS.of (Nat.le_of_ble_eq_true rfl) ?_
  refine wp_iload_n d_Chn_putRequest_0 rfl 2 rfl ?_
  refine wp_aload_n d_Chn_putRequest_1 rfl 0 rfl ?_
  refine wn_get_Chn d_Chn_putRequest_2 ((hR.ci c hc hs).1) 6 (by decide) wF_Chn_36 rfl ?_
  refine wp_toI (z := (nI t)) (((hR.ci c hc hs).2.2.2.2.2.2.2.2.2.2).trans (by rw [ht]; rfl)) ?_
  refine wp_isubN d_Chn_putRequest_5 (by omega) ?_
  refine wp_iconst (v := nI 3) d_Chn_putRequest_6 (by decide) ?_
  refine wp_ltN (tgt := 32) d_Chn_putRequest_7 (by decide) (by omega) (by omega) (fun c7 => ?_) (fun c7 => ?_)
  · exact absurd c7 (by omega)
  · refine wp_aload_n d_Chn_putRequest_10 rfl 0 rfl ?_
    refine wn_get_Chn d_Chn_putRequest_11 ((hR.ci c hc hs).1) 2 (by decide) wF_Chn_26 rfl ?_
    refine wp_toVR (o := some (Γ 12 c)) (z := .ref (Γ 12 c)) ((hR.ci c hc hs).2.2.2.2.1) rfl ?_
    refine wn_new_Frm d_Chn_putRequest_14 wC_Chn_70 (hR.df) (fun q1 hq1 => ?_)
    refine wp_dup d_Chn_putRequest_17 rfl ?_
    refine wp_iload_n d_Chn_putRequest_18 rfl 1 rfl ?_
    refine wp_null d_Chn_putRequest_19 ?_
    refine wp_iconst (v := nI 1) d_Chn_putRequest_20 (by decide) ?_
    refine wp_callU (r := 2) d_Chn_putRequest_21 (link_I (as := [.int (nI n), .null, .int (bI true)]) (rest := [.ref q1, .ref (Γ 12 c)]) d_Chn_putRequest_21 cal_Frm_init rfl wM_Chn_72 rfl) cal_Frm_init (c_Frm_init0 (se := nI n) (b := true) (kat _ _ _)) (Nat.le_of_ble_eq_true rfl) ⟨Nat.le_of_ble_eq_true rfl, Nat.le_of_ble_eq_true rfl⟩ ?_
    have hRn := hR.newF hq1 (nI n) (bI true) none
    refine wp_callEU (k' := 0) (n' := 0) (r := 0) d_Chn_putRequest_24 (link_V (as := [.ref q1]) (rest := []) (r := (R_Frs, T_Frs, 3)) d_Chn_putRequest_24 cal_Frs_add wM_Chn_75 rfl (hN_o (kup hq1 ((rg_n ((hR.ri c hc hs).2.2.2.2.2)).1)) (by decide)) rfl) cal_Frs_add ((hRn.ri c hc hs).2.2.2.2.2.add (kat _ _ _) (fr1_new true)) (Nat.le_of_ble_eq_true rfl) ⟨Nat.le_of_ble_eq_true rfl, Nat.le_of_ble_eq_true rfl⟩ (fun h' q24 => ?_)
    obtain ⟨I1, Er1, rfl, h1, h2, h3⟩ := q24
    have hR2 := hRn.wire hc hs h1 h2 h3
    rw [wWire_lay] at hR2
    refine wp_aload_n d_Chn_putRequest_27 rfl 0 rfl ?_
    refine wp_iload_n d_Chn_putRequest_28 rfl 2 rfl ?_
    refine wn_put_Chn (ty := t_Chn 6) (I' := u2 I1 13 (Γ 7 c) (nI m)) (R' := (u2r R 33 q1 none)) (L' := L) d_Chn_putRequest_29 (kup hq1 ((hR.ci c hc hs).1)) 6 (by decide) wF_Chn_36 rfl (t_Chn_ok 6 (by decide)) rfl rfl sF_13 (oI _ _ _ 13 _) ?_
    exact wp_vret d_Chn_putRequest_32 rfl ⟨rfl, _, _, _, _, _, _, _, _, _, rfl, by have h9 := hR2.num (c := otC c) (d := wAsk (sCh s (otC c)) (some m)) (otC_lt hc) (by rw [otC_2]; exact hs) (Or.inr (Or.inr ⟨rfl, by rw [otC_otC], rfl, by rw [sCh_ne _ _ (otC_ne c)]; rfl⟩)); rw [ch1_comm _ _ _ (otC_ne c).symm] at h9; exact h9, ((Kp_newF (L := L) (N := N) (E := E) (El := El) (Er := Er) hq1 _ _ _).tr (Kp_f h1)).tr (Kp_u (by decide))⟩
set_option maxRecDepth 20000 in
theorem c_Chn_putRequest2 {G : Gt} {K N : Nat → Nat} {I : Nat → Nat → Int32} {R : Nat → Nat → Option Nat} {L : Nat → Nat → Int64} {E : Nat → Nat → Int32} {El : Nat → Nat → Int64} {Er : Nat → Nat → Option Nat} {Γ : Gm} {ρ : Nat → Nat} {s : Sa} (hR : RepN Γ ρ K N I R L E El Er s) {c : Nat} (hc : c < 16) (hs : (sLn s (c / 2)).isSome = true) {n m : Nat} (hm : m < 2 ^ 30) (ht : cAsk (sCh s (otC c)) = none) : CallE G m_Chn_putRequest 2 29 [.ref (Γ 7 c), .int (nI n), .int (nI m)] (hN K N I R L E El Er) 1 3 none (NetK Γ (ch1 (ch1 s (otC c) (wAsk (sCh s (otC c)) (some m))) c (layC (sCh s c) (2, n))) K I R) := by
  refine CallS.of (Nat.le_of_ble_eq_true rfl) ?_
  refine wp_iload_n d_Chn_putRequest_0 rfl 2 rfl ?_
  refine wp_aload_n d_Chn_putRequest_1 rfl 0 rfl ?_
  refine wn_get_Chn d_Chn_putRequest_2 ((hR.ci c hc hs).1) 6 (by decide) wF_Chn_36 rfl ?_
  refine wp_toI (z := (-3)) (((hR.ci c hc hs).2.2.2.2.2.2.2.2.2.2).trans (by rw [ht]; rfl)) ?_
  refine wp_isub d_Chn_putRequest_5 ?_
  refine wp_toI (z := (nI (m + 3))) (ak_3 m) ?_
  refine wp_iconst (v := nI 3) d_Chn_putRequest_6 (by decide) ?_
  refine wp_ltN (tgt := 32) d_Chn_putRequest_7 (by decide) (by omega) (by omega) (fun c7 => ?_) (fun c7 => ?_)
  · exact absurd c7 (by omega)
  · refine wp_aload_n d_Chn_putRequest_10 rfl 0 rfl ?_
    refine wn_get_Chn d_Chn_putRequest_11 ((hR.ci c hc hs).1) 2 (by decide) wF_Chn_26 rfl ?_
    refine wp_toVR (o := some (Γ 12 c)) (z := .ref (Γ 12 c)) ((hR.ci c hc hs).2.2.2.2.1) rfl ?_
    refine wn_new_Frm d_Chn_putRequest_14 wC_Chn_70 (hR.df) (fun q1 hq1 => ?_)
    refine wp_dup d_Chn_putRequest_17 rfl ?_
    refine wp_iload_n d_Chn_putRequest_18 rfl 1 rfl ?_
    refine wp_null d_Chn_putRequest_19 ?_
    refine wp_iconst (v := nI 1) d_Chn_putRequest_20 (by decide) ?_
    refine wp_callU (r := 2) d_Chn_putRequest_21 (link_I (as := [.int (nI n), .null, .int (bI true)]) (rest := [.ref q1, .ref (Γ 12 c)]) d_Chn_putRequest_21 cal_Frm_init rfl wM_Chn_72 rfl) cal_Frm_init (c_Frm_init0 (se := nI n) (b := true) (kat _ _ _)) (Nat.le_of_ble_eq_true rfl) ⟨Nat.le_of_ble_eq_true rfl, Nat.le_of_ble_eq_true rfl⟩ ?_
    have hRn := hR.newF hq1 (nI n) (bI true) none
    refine wp_callEU (k' := 0) (n' := 0) (r := 0) d_Chn_putRequest_24 (link_V (as := [.ref q1]) (rest := []) (r := (R_Frs, T_Frs, 3)) d_Chn_putRequest_24 cal_Frs_add wM_Chn_75 rfl (hN_o (kup hq1 ((rg_n ((hR.ri c hc hs).2.2.2.2.2)).1)) (by decide)) rfl) cal_Frs_add ((hRn.ri c hc hs).2.2.2.2.2.add (kat _ _ _) (fr1_new true)) (Nat.le_of_ble_eq_true rfl) ⟨Nat.le_of_ble_eq_true rfl, Nat.le_of_ble_eq_true rfl⟩ (fun h' q24 => ?_)
    obtain ⟨I1, Er1, rfl, h1, h2, h3⟩ := q24
    have hR2 := hRn.wire hc hs h1 h2 h3
    rw [wWire_lay] at hR2
    refine wp_aload_n d_Chn_putRequest_27 rfl 0 rfl ?_
    refine wp_iload_n d_Chn_putRequest_28 rfl 2 rfl ?_
    refine wn_put_Chn (ty := t_Chn 6) (I' := u2 I1 13 (Γ 7 c) (nI m)) (R' := (u2r R 33 q1 none)) (L' := L) d_Chn_putRequest_29 (kup hq1 ((hR.ci c hc hs).1)) 6 (by decide) wF_Chn_36 rfl (t_Chn_ok 6 (by decide)) rfl rfl sF_13 (oI _ _ _ 13 _) ?_
    exact wp_vret d_Chn_putRequest_32 rfl ⟨rfl, _, _, _, _, _, _, _, _, _, rfl, by have h9 := hR2.num (c := otC c) (d := wAsk (sCh s (otC c)) (some m)) (otC_lt hc) (by rw [otC_2]; exact hs) (Or.inr (Or.inr ⟨rfl, by rw [otC_otC], rfl, by rw [sCh_ne _ _ (otC_ne c)]; rfl⟩)); rw [ch1_comm _ _ _ (otC_ne c).symm] at h9; exact h9, ((Kp_newF (L := L) (N := N) (E := E) (El := El) (Er := Er) hq1 _ _ _).tr (Kp_f h1)).tr (Kp_u (by decide))⟩
end Cls14
