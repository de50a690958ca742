section Cls33
/-- what was there stands as it stood, but for the fields of o -/
def Gw (o : Nat) (ρ K N : Nat → Nat) (I : Nat → Nat → Int32) (R : Nat → Nat → Option Nat) (L : Nat → Nat → Int64) (E : Nat → Nat → Int32) (El : Nat → Nat → Int64) (Er : Nat → Nat → Option Nat) (ρ' K' N' : Nat → Nat) (I' : Nat → Nat → Int32) (R' : Nat → Nat → Option Nat) (L' : Nat → Nat → Int64) (E' : Nat → Nat → Int32) (El' : Nat → Nat → Int64) (Er' : Nat → Nat → Option Nat) : Prop := (∀ q, K q ≠ 0 → K' q = K q ∧ N' q = N q ∧ ρ' q = ρ q ∧ E' q = E q ∧ El' q = El q ∧ Er' q = Er q) ∧ (∀ q, K q ≠ 0 → q ≠ o → ∀ g, I' g q = I g q ∧ R' g q = R g q ∧ L' g q = L g q) ∧ DF K' I' R' L' E' El' Er'
theorem Gw.tr {ρ K N : Nat → Nat} {I : Nat → Nat → Int32} {R : Nat → Nat → Option Nat} {L : Nat → Nat → Int64} {E : Nat → Nat → Int32} {El : Nat → Nat → Int64} {Er : Nat → Nat → Option Nat} {ρ1 K1 N1 : Nat → Nat} {I1 : Nat → Nat → Int32} {R1 : Nat → Nat → Option Nat} {L1 : Nat → Nat → Int64} {E1 : Nat → Nat → Int32} {El1 : Nat → Nat → Int64} {Er1 : Nat → Nat → Option Nat} {ρ2 K2 N2 : Nat → Nat} {I2 : Nat → Nat → Int32} {R2 : Nat → Nat → Option Nat} {L2 : Nat → Nat → Int64} {E2 : Nat → Nat → Int32} {El2 : Nat → Nat → Int64} {Er2 : Nat → Nat → Option Nat} {o o' : Nat} (h1 : Gw o ρ K N I R L E El Er ρ1 K1 N1 I1 R1 L1 E1 El1 Er1) (h2 : Gw o' ρ1 K1 N1 I1 R1 L1 E1 El1 Er1 ρ2 K2 N2 I2 R2 L2 E2 El2 Er2) (ho : o' = o ∨ K o' = 0) : Gw o ρ K N I R L E El Er ρ2 K2 N2 I2 R2 L2 E2 El2 Er2 := by
  refine ⟨fun q hq => ?_, fun q hq hn g => ?_, h2.2.2⟩
  · obtain ⟨a1, a2, a3, a4, a5, a6⟩ := h1.1 q hq
    obtain ⟨b1, b2, b3, b4, b5, b6⟩ := h2.1 q (by omega)
    exact ⟨b1.trans a1, b2.trans a2, b3.trans a3, b4.trans a4, b5.trans a5, b6.trans a6⟩
  · have hk := (h1.1 q hq).1
    obtain ⟨a1, a2, a3⟩ := h1.2.1 q hq hn g
    obtain ⟨b1, b2, b3⟩ := h2.2.1 q (by omega) (fun e => by rcases ho with z | z; (exact hn (e.trans z)); (rw [e] at hq; exact hq z)) g
    exact ⟨b1.trans a1, b2.trans a2, b3.trans a3⟩
/-- a channel as it is made; m: its number -/
def ChF (m c : Nat) (a : Nat → Nat → Nat) (ρ K N : Nat → Nat) (I : Nat → Nat → Int32) (R Er : Nat → Nat → Option Nat) : Prop := K c = 1 + 1 ∧ R 7 c = some (a 8 0) ∧ R 8 c = some (a 10 0) ∧ R 9 c = some (a 12 0) ∧ K (a 8 0) = 20 + 4 ∧ N (a 8 0) = 5 ∧ I 10 c = nI 1 ∧ I 11 c = nI 1 ∧ I 12 c = nI 0 ∧ I 13 c = -3 ∧
  (∀ p, p < 5 → Er (a 8 0) p = some (a 9 p) ∧ ρ (a 9 p) = 90000 + (5 * m + p) ∧ K (a 9 p) = 3 + 1 ∧ R 18 (a 9 p) = none ∧ R 19 (a 9 p) = none ∧ I 20 (a 9 p) = nI 0) ∧ ρ (a 10 0) = 100000 + m ∧ ρ (a 11 0) = 110000 + m ∧ ρ (a 12 0) = 120000 + m ∧ ρ (a 13 0) = 130000 + m ∧ FS K N I R Er (a 10 0) (a 11 0) 20 [] ∧ FS K N I R Er (a 12 0) (a 13 0) 200 []
theorem FS.gw {ρ K N : Nat → Nat} {I : Nat → Nat → Int32} {R : Nat → Nat → Option Nat} {L : Nat → Nat → Int64} {E : Nat → Nat → Int32} {El : Nat → Nat → Int64} {Er : Nat → Nat → Option Nat} {ρ' K' N' : Nat → Nat} {I' : Nat → Nat → Int32} {R' : Nat → Nat → Option Nat} {L' : Nat → Nat → Int64} {E' : Nat → Nat → Int32} {El' : Nat → Nat → Int64} {Er' : Nat → Nat → Option Nat} {o f r cap : Nat} (h : FS K N I R Er f r cap []) (F : Gw o ρ K N I R L E El Er ρ' K' N' I' R' L' E' El' Er') (ho : K o ≠ 7 + 1) : FS K' N' I' R' Er' f r cap [] := by
  obtain ⟨a1, a2, a3, a4, a5, st, b1, b2, b3, b4, -⟩ := h
  have kf : K f ≠ 0 := by omega
  have kr : K r ≠ 0 := by omega
  have nf : f ≠ o := fun e => ho (by rw [← e]; exact a1)
  exact ⟨(F.1 f kf).1.trans a1, (F.1 r kr).1.trans a2, (F.2.1 f kf nf 35).2.1.trans a3, (F.1 r kr).2.1.trans a4, a5, st, (F.2.1 f kf nf 36).1.trans b1, b2, (F.2.1 f kf nf 37).1.trans b3, b4, fun k x hx => by cases hx⟩
theorem ChF.gw {ρ K N : Nat → Nat} {I : Nat → Nat → Int32} {R : Nat → Nat → Option Nat} {L : Nat → Nat → Int64} {E : Nat → Nat → Int32} {El : Nat → Nat → Int64} {Er : Nat → Nat → Option Nat} {ρ' K' N' : Nat → Nat} {I' : Nat → Nat → Int32} {R' : Nat → Nat → Option Nat} {L' : Nat → Nat → Int64} {E' : Nat → Nat → Int32} {El' : Nat → Nat → Int64} {Er' : Nat → Nat → Option Nat} {o m c : Nat} {a : Nat → Nat → Nat} (h : ChF m c a ρ K N I R Er) (F : Gw o ρ K N I R L E El Er ρ' K' N' I' R' L' E' El' Er') (ho : K o ≠ 7 + 1 ∧ K o ≠ 3 + 1) (hc : c ≠ o) : ChF m c a ρ' K' N' I' R' Er' := by
  obtain ⟨a1, b1, b2, b3, c1, c2, d1, d2, d3, d4, e, f1, f2, f3, f4, g1, g2⟩ := h
  have kc : K c ≠ 0 := by omega
  have k8 : K (a 8 0) ≠ 0 := by omega
  have x1 := g1.1
  have x2 := g1.2.1
  have x3 := g2.1
  have x4 := g2.2.1
  refine ⟨(F.1 c kc).1.trans a1, (F.2.1 c kc hc 7).2.1.trans b1, (F.2.1 c kc hc 8).2.1.trans b2, (F.2.1 c kc hc 9).2.1.trans b3, (F.1 _ k8).1.trans c1, (F.1 _ k8).2.1.trans c2, (F.2.1 c kc hc 10).1.trans d1, (F.2.1 c kc hc 11).1.trans d2, (F.2.1 c kc hc 12).1.trans d3, (F.2.1 c kc hc 13).1.trans d4, fun p hp => ?_, (F.1 _ (by omega)).2.2.1.trans f1, (F.1 _ (by omega)).2.2.1.trans f2, (F.1 _ (by omega)).2.2.1.trans f3, (F.1 _ (by omega)).2.2.1.trans f4, g1.gw F ho.1, g2.gw F ho.1⟩
  obtain ⟨p1, p2, p3, p4, p5, p6⟩ := e p hp
  have kp : K (a 9 p) ≠ 0 := by omega
  have np : a 9 p ≠ o := fun z => ho.2 (by rw [← z]; exact p3)
  exact ⟨by rw [(F.1 _ k8).2.2.2.2.2]; exact p1, (F.1 _ kp).2.2.1.trans p2, (F.1 _ kp).1.trans p3, (F.2.1 _ kp np 18).2.1.trans p4, (F.2.1 _ kp np 19).2.1.trans p5, (F.2.1 _ kp np 20).1.trans p6⟩
set_option maxRecDepth 20000 in
theorem c_Frs_init {G : Gt} {K N : Nat → Nat} {I : Nat → Nat → Int32} {R : Nat → Nat → Option Nat} {L : Nat → Nat → Int64} {E : Nat → Nat → Int32} {El : Nat → Nat → Int64} {Er : Nat → Nat → Option Nat} {f cap : Nat} (hD : DF K I R L E El Er) (hf : K f = 7 + 1) (hc : 1 ≤ cap) (hc2 : cap ≤ 1000) : CallE G m_Frs_init 1 14 [.ref f, .int (nI cap)] (hN K N I R L E El Er) (0 + 1) (0 + cap) none (fun h' => ∃ r, K r = 0 ∧ h' = hN (va_up K r (20 + 5)) (va_up N r cap) I (u2r R 35 f (some r)) L E El Er) := by
  refine CallS.of (Nat.le_of_ble_eq_true rfl) ?_
  refine wp_aload_n d_Frs_init_0 rfl 0 rfl ?_
  refine wp_objInit d_Frs_init_1 wM_Frs_3 ⟨Nat.le_of_ble_eq_true rfl, Nat.le_of_ble_eq_true rfl⟩ ?_
  refine wp_aload_n d_Frs_init_4 rfl 0 rfl ?_
  refine wp_iload_n d_Frs_init_5 rfl 1 rfl ?_
  refine wp_iconst (v := nI 1) d_Frs_init_6 (by decide) ?_
  refine wp_callVF (r := 1) d_Frs_init_7 (link_SF (av := [.int (nI cap), .int (nI 1)]) (rest := [.ref f]) d_Frs_init_7 cal_Math_max wM_Frs_9 rfl) cal_Math_max (c_Math_max (by omega) (by omega)) (Nat.le_of_ble_eq_true rfl) ⟨Nat.le_of_ble_eq_true rfl, Nat.le_of_ble_eq_true rfl⟩ ?_
  refine wp_toI (z := nI cap) (congrArg nI (by omega)) ?_
  refine wn_newq (t := 5) (len := cap) d_Frs_init_10 rfl (by decide) wA_Frs_15 wO_5 (by omega) (hD) (fun q1 hq1 => ?_)
  refine wn_putF_Frs (ty := t_Frs 0) (v := va_rf (some q1)) (I' := I) (R' := u2r R 35 f (some q1)) (L' := L) d_Frs_init_13 (kup hq1 (hf)) 0 (by decide) wF_Frs_17 rfl rfl rfl (t_Frs_ok 0 (by decide)) rfl rfl sF_35 (oR _ _ _ 35 _) ?_
  exact wp_vret d_Frs_init_16 rfl ⟨rfl, q1, hq1, rfl⟩
theorem chn_fin (ρ : Nat → Nat) {K N : Nat → Nat} {I : Nat → Nat → Int32} {R : Nat → Nat → Option Nat} {L : Nat → Nat → Int64} {E : Nat → Nat → Int32} {El : Nat → Nat → Int64} {Er : Nat → Nat → Option Nat} (m : Nat) {c q1 q2 ra q3 rb q4 q5 q6 q7 q8 : Nat} (hD : DF K I R L E El Er) (hc : K c = 1 + 1) (hz : ∀ g, I g c = 0) (hq1 : K q1 = 0) (hq2 : (va_up K q1 (20 + 4)) q2 = 0) (hra : (va_up (va_up K q1 (20 + 4)) q2 (7 + 1)) ra = 0) (hq3 : (va_up (va_up (va_up K q1 (20 + 4)) q2 (7 + 1)) ra (20 + 5)) q3 = 0) (hrb : (va_up (va_up (va_up (va_up K q1 (20 + 4)) q2 (7 + 1)) ra (20 + 5)) q3 (7 + 1)) rb = 0) (hq4 : (va_up (va_up (va_up (va_up (va_up K q1 (20 + 4)) q2 (7 + 1)) ra (20 + 5)) q3 (7 + 1)) rb (20 + 5)) q4 = 0) (hq5 : (va_up (va_up (va_up (va_up (va_up (va_up K q1 (20 + 4)) q2 (7 + 1)) ra (20 + 5)) q3 (7 + 1)) rb (20 + 5)) q4 (3 + 1)) q5 = 0) (hq6 : (va_up (va_up (va_up (va_up (va_up (va_up (va_up K q1 (20 + 4)) q2 (7 + 1)) ra (20 + 5)) q3 (7 + 1)) rb (20 + 5)) q4 (3 + 1)) q5 (3 + 1)) q6 = 0) (hq7 : (va_up (va_up (va_up (va_up (va_up (va_up (va_up (va_up K q1 (20 + 4)) q2 (7 + 1)) ra (20 + 5)) q3 (7 + 1)) rb (20 + 5)) q4 (3 + 1)) q5 (3 + 1)) q6 (3 + 1)) q7 = 0) (hq8 : (va_up (va_up (va_up (va_up (va_up (va_up (va_up (va_up (va_up K q1 (20 + 4)) q2 (7 + 1)) ra (20 + 5)) q3 (7 + 1)) rb (20 + 5)) q4 (3 + 1)) q5 (3 + 1)) q6 (3 + 1)) q7 (3 + 1)) q8 = 0) : (fun h' => ∃ (ρ' K' N' : Nat → Nat) (I' : Nat → Nat → Int32) (R' : Nat → Nat → Option Nat) (L' : Nat → Nat → Int64) (E' : Nat → Nat → Int32) (El' : Nat → Nat → Int64) (Er' : Nat → Nat → Option Nat) (a : Nat → Nat → Nat), h' = hN K' N' I' R' L' E' El' Er' ∧ Gw c ρ K N I R L E El Er ρ' K' N' I' R' L' E' El' Er' ∧ ChF m c a ρ' K' N' I' R' Er') (hN (va_up (va_up (va_up (va_up (va_up (va_up (va_up (va_up (va_up (va_up K q1 (20 + 4)) q2 (7 + 1)) ra (20 + 5)) q3 (7 + 1)) rb (20 + 5)) q4 (3 + 1)) q5 (3 + 1)) q6 (3 + 1)) q7 (3 + 1)) q8 (3 + 1)) (va_up (va_up (va_up N q1 5) ra 20) rb 200) (u2 (u2 (u2 I 10 c (nI 1)) 11 c (nI 1)) 13 c (-3)) (u2r (u2r (u2r (u2r (u2r R 7 c (some q1)) 35 q2 (some ra)) 8 c (some q2)) 35 q3 (some rb)) 9 c (some q3)) L E El (u2r (u2r (u2r (u2r (u2r Er q1 0 (some q4)) q1 1 (some q5)) q1 2 (some q6)) q1 3 (some q7)) q1 4 (some q8))) := by
  obtain ⟨n1_0, k1_0⟩ := kz_of (by decide) hq2
  obtain ⟨n2_1, k2_1⟩ := kz_of (by decide) hra
  obtain ⟨n2_0, k2_0⟩ := kz_of (by decide) k2_1
  obtain ⟨n3_2, k3_2⟩ := kz_of (by decide) hq3
  obtain ⟨n3_1, k3_1⟩ := kz_of (by decide) k3_2
  obtain ⟨n3_0, k3_0⟩ := kz_of (by decide) k3_1
  obtain ⟨n4_3, k4_3⟩ := kz_of (by decide) hrb
  obtain ⟨n4_2, k4_2⟩ := kz_of (by decide) k4_3
  obtain ⟨n4_1, k4_1⟩ := kz_of (by decide) k4_2
  obtain ⟨n4_0, k4_0⟩ := kz_of (by decide) k4_1
  obtain ⟨n5_4, k5_4⟩ := kz_of (by decide) hq4
  obtain ⟨n5_3, k5_3⟩ := kz_of (by decide) k5_4
  obtain ⟨n5_2, k5_2⟩ := kz_of (by decide) k5_3
  obtain ⟨n5_1, k5_1⟩ := kz_of (by decide) k5_2
  obtain ⟨n5_0, k5_0⟩ := kz_of (by decide) k5_1
  obtain ⟨n6_5, k6_5⟩ := kz_of (by decide) hq5
  obtain ⟨n6_4, k6_4⟩ := kz_of (by decide) k6_5
  obtain ⟨n6_3, k6_3⟩ := kz_of (by decide) k6_4
  obtain ⟨n6_2, k6_2⟩ := kz_of (by decide) k6_3
  obtain ⟨n6_1, k6_1⟩ := kz_of (by decide) k6_2
  obtain ⟨n6_0, k6_0⟩ := kz_of (by decide) k6_1
  obtain ⟨n7_6, k7_6⟩ := kz_of (by decide) hq6
  obtain ⟨n7_5, k7_5⟩ := kz_of (by decide) k7_6
  obtain ⟨n7_4, k7_4⟩ := kz_of (by decide) k7_5
  obtain ⟨n7_3, k7_3⟩ := kz_of (by decide) k7_4
  obtain ⟨n7_2, k7_2⟩ := kz_of (by decide) k7_3
  obtain ⟨n7_1, k7_1⟩ := kz_of (by decide) k7_2
  obtain ⟨n7_0, k7_0⟩ := kz_of (by decide) k7_1
  obtain ⟨n8_7, k8_7⟩ := kz_of (by decide) hq7
  obtain ⟨n8_6, k8_6⟩ := kz_of (by decide) k8_7
  obtain ⟨n8_5, k8_5⟩ := kz_of (by decide) k8_6
  obtain ⟨n8_4, k8_4⟩ := kz_of (by decide) k8_5
  obtain ⟨n8_3, k8_3⟩ := kz_of (by decide) k8_4
  obtain ⟨n8_2, k8_2⟩ := kz_of (by decide) k8_3
  obtain ⟨n8_1, k8_1⟩ := kz_of (by decide) k8_2
  obtain ⟨n8_0, k8_0⟩ := kz_of (by decide) k8_1
  obtain ⟨n9_8, k9_8⟩ := kz_of (by decide) hq8
  obtain ⟨n9_7, k9_7⟩ := kz_of (by decide) k9_8
  obtain ⟨n9_6, k9_6⟩ := kz_of (by decide) k9_7
  obtain ⟨n9_5, k9_5⟩ := kz_of (by decide) k9_6
  obtain ⟨n9_4, k9_4⟩ := kz_of (by decide) k9_5
  obtain ⟨n9_3, k9_3⟩ := kz_of (by decide) k9_4
  obtain ⟨n9_2, k9_2⟩ := kz_of (by decide) k9_3
  obtain ⟨n9_1, k9_1⟩ := kz_of (by decide) k9_2
  obtain ⟨n9_0, k9_0⟩ := kz_of (by decide) k9_1
  have kcc : K c ≠ 0 := by omega
  have nq : ∀ q, K q ≠ 0 → q ≠ q1 ∧ q ≠ q2 ∧ q ≠ ra ∧ q ≠ q3 ∧ q ≠ rb ∧ q ≠ q4 ∧ q ≠ q5 ∧ q ≠ q6 ∧ q ≠ q7 ∧ q ≠ q8 := fun q hq => ⟨dne2 hq1 hq, dne2 k1_0 hq, dne2 k2_0 hq, dne2 k3_0 hq, dne2 k4_0 hq, dne2 k5_0 hq, dne2 k6_0 hq, dne2 k7_0 hq, dne2 k8_0 hq, dne2 k9_0 hq⟩
  obtain ⟨c0, c1, c2, c3, c4, c5, c6, c7, c8, c9⟩ := nq c kcc
  have zq : ∀ q, (va_up (va_up (va_up (va_up (va_up (va_up (va_up (va_up (va_up (va_up K q1 (20 + 4)) q2 (7 + 1)) ra (20 + 5)) q3 (7 + 1)) rb (20 + 5)) q4 (3 + 1)) q5 (3 + 1)) q6 (3 + 1)) q7 (3 + 1)) q8 (3 + 1)) q = 0 → K q = 0 ∧ q ≠ q1 ∧ q ≠ q2 ∧ q ≠ ra ∧ q ≠ q3 ∧ q ≠ rb ∧ q ≠ q4 ∧ q ≠ q5 ∧ q ≠ q6 ∧ q ≠ q7 ∧ q ≠ q8 := fun q hq => by
    obtain ⟨z9, y9⟩ := kz_of (by decide) hq
    obtain ⟨z8, y8⟩ := kz_of (by decide) y9
    obtain ⟨z7, y7⟩ := kz_of (by decide) y8
    obtain ⟨z6, y6⟩ := kz_of (by decide) y7
    obtain ⟨z5, y5⟩ := kz_of (by decide) y6
    obtain ⟨z4, y4⟩ := kz_of (by decide) y5
    obtain ⟨z3, y3⟩ := kz_of (by decide) y4
    obtain ⟨z2, y2⟩ := kz_of (by decide) y3
    obtain ⟨z1, y1⟩ := kz_of (by decide) y2
    obtain ⟨z0, y0⟩ := kz_of (by decide) y1
    exact ⟨y0, z0, z1, z2, z3, z4, z5, z6, z7, z8, z9⟩
  have z2 := hD q2 k1_0
  have z3 := hD q3 k3_0
  refine ⟨(va_up (va_up (va_up (va_up (va_up (va_up (va_up (va_up (va_up (va_up ρ q1 (80000 + m)) q2 (100000 + m)) ra (110000 + m)) q3 (120000 + m)) rb (130000 + m)) q4 (90000 + (5 * m + 0))) q5 (90000 + (5 * m + 1))) q6 (90000 + (5 * m + 2))) q7 (90000 + (5 * m + 3))) q8 (90000 + (5 * m + 4))), (va_up (va_up (va_up (va_up (va_up (va_up (va_up (va_up (va_up (va_up K q1 (20 + 4)) q2 (7 + 1)) ra (20 + 5)) q3 (7 + 1)) rb (20 + 5)) q4 (3 + 1)) q5 (3 + 1)) q6 (3 + 1)) q7 (3 + 1)) q8 (3 + 1)), (va_up (va_up (va_up N q1 5) ra 20) rb 200), (u2 (u2 (u2 I 10 c (nI 1)) 11 c (nI 1)) 13 c (-3)), (u2r (u2r (u2r (u2r (u2r R 7 c (some q1)) 35 q2 (some ra)) 8 c (some q2)) 35 q3 (some rb)) 9 c (some q3)), L, E, El, (u2r (u2r (u2r (u2r (u2r Er q1 0 (some q4)) q1 1 (some q5)) q1 2 (some q6)) q1 3 (some q7)) q1 4 (some q8)), fun k p => if k = 8 then q1 else if k = 9 then [q4, q5, q6, q7, q8].getD p 0 else if k = 10 then q2 else if k = 11 then ra else if k = 12 then q3 else rb, rfl, ⟨fun q hq => ?_, fun q hq hn g => ?_, fun q hq => ?_⟩, ?_⟩
  · obtain ⟨e0, e1, e2, e3, e4, e5, e6, e7, e8, e9⟩ := nq q hq
    refine ⟨by simp [va_up, e0, e1, e2, e3, e4, e5, e6, e7, e8, e9], by simp [va_up, e0, e2, e4], by simp [va_up, e0, e1, e2, e3, e4, e5, e6, e7, e8, e9], rfl, rfl, ?_⟩
    rw [u2r_ne _ _ e0, u2r_ne _ _ e0, u2r_ne _ _ e0, u2r_ne _ _ e0, u2r_ne _ _ e0]
  · obtain ⟨e0, e1, e2, e3, e4, e5, e6, e7, e8, e9⟩ := nq q hq
    exact ⟨by rw [u2_q _ _ hn, u2_q _ _ hn, u2_q _ _ hn], by rw [u2r_q _ _ hn, u2r_q _ _ e3, u2r_q _ _ hn, u2r_q _ _ e1, u2r_q _ _ hn], rfl⟩
  · obtain ⟨kq, e0, e1, e2, e3, e4, e5, e6, e7, e8, e9⟩ := zq q hq
    have hn : q ≠ c := fun e => by rw [e] at kq; omega
    obtain ⟨d1, d2, d3, d4, d5, d6⟩ := hD q kq
    exact ⟨fun g => by rw [u2_q _ _ hn, u2_q _ _ hn, u2_q _ _ hn]; exact d1 g, fun g => by rw [u2r_q _ _ hn, u2r_q _ _ e3, u2r_q _ _ hn, u2r_q _ _ e1, u2r_q _ _ hn]; exact d2 g, d3, d4, d5, fun i => by rw [u2r_ne _ _ e0, u2r_ne _ _ e0, u2r_ne _ _ e0, u2r_ne _ _ e0, u2r_ne _ _ e0]; exact d6 i⟩
  · have hlist : ∀ p, p < 5 → ∃ l, [q4, q5, q6, q7, q8].getD p 0 = l ∧ (u2r (u2r (u2r (u2r (u2r Er q1 0 (some q4)) q1 1 (some q5)) q1 2 (some q6)) q1 3 (some q7)) q1 4 (some q8)) q1 p = some l ∧ (va_up (va_up (va_up (va_up (va_up (va_up (va_up (va_up (va_up (va_up ρ q1 (80000 + m)) q2 (100000 + m)) ra (110000 + m)) q3 (120000 + m)) rb (130000 + m)) q4 (90000 + (5 * m + 0))) q5 (90000 + (5 * m + 1))) q6 (90000 + (5 * m + 2))) q7 (90000 + (5 * m + 3))) q8 (90000 + (5 * m + 4))) l = 90000 + (5 * m + p) ∧ (va_up (va_up (va_up (va_up (va_up (va_up (va_up (va_up (va_up (va_up K q1 (20 + 4)) q2 (7 + 1)) ra (20 + 5)) q3 (7 + 1)) rb (20 + 5)) q4 (3 + 1)) q5 (3 + 1)) q6 (3 + 1)) q7 (3 + 1)) q8 (3 + 1)) l = 3 + 1 ∧ K l = 0 ∧ l ≠ c ∧ l ≠ q2 ∧ l ≠ q3 := by
      intro p hp
      match p, hp with
      | 0, _ => exact ⟨q4, rfl, by simp [u2r_at], by simp [va_up, n1_0, n1_0.symm, n2_1, n2_1.symm, n2_0, n2_0.symm, n3_2, n3_2.symm, n3_1, n3_1.symm, n3_0, n3_0.symm, n4_3, n4_3.symm, n4_2, n4_2.symm, n4_1, n4_1.symm, n4_0, n4_0.symm, n5_4, n5_4.symm, n5_3, n5_3.symm, n5_2, n5_2.symm, n5_1, n5_1.symm, n5_0, n5_0.symm, n6_5, n6_5.symm, n6_4, n6_4.symm, n6_3, n6_3.symm, n6_2, n6_2.symm, n6_1, n6_1.symm, n6_0, n6_0.symm, n7_6, n7_6.symm, n7_5, n7_5.symm, n7_4, n7_4.symm, n7_3, n7_3.symm, n7_2, n7_2.symm, n7_1, n7_1.symm, n7_0, n7_0.symm, n8_7, n8_7.symm, n8_6, n8_6.symm, n8_5, n8_5.symm, n8_4, n8_4.symm, n8_3, n8_3.symm, n8_2, n8_2.symm, n8_1, n8_1.symm, n8_0, n8_0.symm, n9_8, n9_8.symm, n9_7, n9_7.symm, n9_6, n9_6.symm, n9_5, n9_5.symm, n9_4, n9_4.symm, n9_3, n9_3.symm, n9_2, n9_2.symm, n9_1, n9_1.symm, n9_0, n9_0.symm], by simp [va_up, n1_0, n1_0.symm, n2_1, n2_1.symm, n2_0, n2_0.symm, n3_2, n3_2.symm, n3_1, n3_1.symm, n3_0, n3_0.symm, n4_3, n4_3.symm, n4_2, n4_2.symm, n4_1, n4_1.symm, n4_0, n4_0.symm, n5_4, n5_4.symm, n5_3, n5_3.symm, n5_2, n5_2.symm, n5_1, n5_1.symm, n5_0, n5_0.symm, n6_5, n6_5.symm, n6_4, n6_4.symm, n6_3, n6_3.symm, n6_2, n6_2.symm, n6_1, n6_1.symm, n6_0, n6_0.symm, n7_6, n7_6.symm, n7_5, n7_5.symm, n7_4, n7_4.symm, n7_3, n7_3.symm, n7_2, n7_2.symm, n7_1, n7_1.symm, n7_0, n7_0.symm, n8_7, n8_7.symm, n8_6, n8_6.symm, n8_5, n8_5.symm, n8_4, n8_4.symm, n8_3, n8_3.symm, n8_2, n8_2.symm, n8_1, n8_1.symm, n8_0, n8_0.symm, n9_8, n9_8.symm, n9_7, n9_7.symm, n9_6, n9_6.symm, n9_5, n9_5.symm, n9_4, n9_4.symm, n9_3, n9_3.symm, n9_2, n9_2.symm, n9_1, n9_1.symm, n9_0, n9_0.symm], k5_0, c5.symm, n5_1, n5_3⟩
      | 1, _ => exact ⟨q5, rfl, by simp [u2r_at], by simp [va_up, n1_0, n1_0.symm, n2_1, n2_1.symm, n2_0, n2_0.symm, n3_2, n3_2.symm, n3_1, n3_1.symm, n3_0, n3_0.symm, n4_3, n4_3.symm, n4_2, n4_2.symm, n4_1, n4_1.symm, n4_0, n4_0.symm, n5_4, n5_4.symm, n5_3, n5_3.symm, n5_2, n5_2.symm, n5_1, n5_1.symm, n5_0, n5_0.symm, n6_5, n6_5.symm, n6_4, n6_4.symm, n6_3, n6_3.symm, n6_2, n6_2.symm, n6_1, n6_1.symm, n6_0, n6_0.symm, n7_6, n7_6.symm, n7_5, n7_5.symm, n7_4, n7_4.symm, n7_3, n7_3.symm, n7_2, n7_2.symm, n7_1, n7_1.symm, n7_0, n7_0.symm, n8_7, n8_7.symm, n8_6, n8_6.symm, n8_5, n8_5.symm, n8_4, n8_4.symm, n8_3, n8_3.symm, n8_2, n8_2.symm, n8_1, n8_1.symm, n8_0, n8_0.symm, n9_8, n9_8.symm, n9_7, n9_7.symm, n9_6, n9_6.symm, n9_5, n9_5.symm, n9_4, n9_4.symm, n9_3, n9_3.symm, n9_2, n9_2.symm, n9_1, n9_1.symm, n9_0, n9_0.symm], by simp [va_up, n1_0, n1_0.symm, n2_1, n2_1.symm, n2_0, n2_0.symm, n3_2, n3_2.symm, n3_1, n3_1.symm, n3_0, n3_0.symm, n4_3, n4_3.symm, n4_2, n4_2.symm, n4_1, n4_1.symm, n4_0, n4_0.symm, n5_4, n5_4.symm, n5_3, n5_3.symm, n5_2, n5_2.symm, n5_1, n5_1.symm, n5_0, n5_0.symm, n6_5, n6_5.symm, n6_4, n6_4.symm, n6_3, n6_3.symm, n6_2, n6_2.symm, n6_1, n6_1.symm, n6_0, n6_0.symm, n7_6, n7_6.symm, n7_5, n7_5.symm, n7_4, n7_4.symm, n7_3, n7_3.symm, n7_2, n7_2.symm, n7_1, n7_1.symm, n7_0, n7_0.symm, n8_7, n8_7.symm, n8_6, n8_6.symm, n8_5, n8_5.symm, n8_4, n8_4.symm, n8_3, n8_3.symm, n8_2, n8_2.symm, n8_1, n8_1.symm, n8_0, n8_0.symm, n9_8, n9_8.symm, n9_7, n9_7.symm, n9_6, n9_6.symm, n9_5, n9_5.symm, n9_4, n9_4.symm, n9_3, n9_3.symm, n9_2, n9_2.symm, n9_1, n9_1.symm, n9_0, n9_0.symm], k6_0, c6.symm, n6_1, n6_3⟩
      | 2, _ => exact ⟨q6, rfl, by simp [u2r_at], by simp [va_up, n1_0, n1_0.symm, n2_1, n2_1.symm, n2_0, n2_0.symm, n3_2, n3_2.symm, n3_1, n3_1.symm, n3_0, n3_0.symm, n4_3, n4_3.symm, n4_2, n4_2.symm, n4_1, n4_1.symm, n4_0, n4_0.symm, n5_4, n5_4.symm, n5_3, n5_3.symm, n5_2, n5_2.symm, n5_1, n5_1.symm, n5_0, n5_0.symm, n6_5, n6_5.symm, n6_4, n6_4.symm, n6_3, n6_3.symm, n6_2, n6_2.symm, n6_1, n6_1.symm, n6_0, n6_0.symm, n7_6, n7_6.symm, n7_5, n7_5.symm, n7_4, n7_4.symm, n7_3, n7_3.symm, n7_2, n7_2.symm, n7_1, n7_1.symm, n7_0, n7_0.symm, n8_7, n8_7.symm, n8_6, n8_6.symm, n8_5, n8_5.symm, n8_4, n8_4.symm, n8_3, n8_3.symm, n8_2, n8_2.symm, n8_1, n8_1.symm, n8_0, n8_0.symm, n9_8, n9_8.symm, n9_7, n9_7.symm, n9_6, n9_6.symm, n9_5, n9_5.symm, n9_4, n9_4.symm, n9_3, n9_3.symm, n9_2, n9_2.symm, n9_1, n9_1.symm, n9_0, n9_0.symm], by simp [va_up, n1_0, n1_0.symm, n2_1, n2_1.symm, n2_0, n2_0.symm, n3_2, n3_2.symm, n3_1, n3_1.symm, n3_0, n3_0.symm, n4_3, n4_3.symm, n4_2, n4_2.symm, n4_1, n4_1.symm, n4_0, n4_0.symm, n5_4, n5_4.symm, n5_3, n5_3.symm, n5_2, n5_2.symm, n5_1, n5_1.symm, n5_0, n5_0.symm, n6_5, n6_5.symm, n6_4, n6_4.symm, n6_3, n6_3.symm, n6_2, n6_2.symm, n6_1, n6_1.symm, n6_0, n6_0.symm, n7_6, n7_6.symm, n7_5, n7_5.symm, n7_4, n7_4.symm, n7_3, n7_3.symm, n7_2, n7_2.symm, n7_1, n7_1.symm, n7_0, n7_0.symm, n8_7, n8_7.symm, n8_6, n8_6.symm, n8_5, n8_5.symm, n8_4, n8_4.symm, n8_3, n8_3.symm, n8_2, n8_2.symm, n8_1, n8_1.symm, n8_0, n8_0.symm, n9_8, n9_8.symm, n9_7, n9_7.symm, n9_6, n9_6.symm, n9_5, n9_5.symm, n9_4, n9_4.symm, n9_3, n9_3.symm, n9_2, n9_2.symm, n9_1, n9_1.symm, n9_0, n9_0.symm], k7_0, c7.symm, n7_1, n7_3⟩
      | 3, _ => exact ⟨q7, rfl, by simp [u2r_at], by simp [va_up, n1_0, n1_0.symm, n2_1, n2_1.symm, n2_0, n2_0.symm, n3_2, n3_2.symm, n3_1, n3_1.symm, n3_0, n3_0.symm, n4_3, n4_3.symm, n4_2, n4_2.symm, n4_1, n4_1.symm, n4_0, n4_0.symm, n5_4, n5_4.symm, n5_3, n5_3.symm, n5_2, n5_2.symm, n5_1, n5_1.symm, n5_0, n5_0.symm, n6_5, n6_5.symm, n6_4, n6_4.symm, n6_3, n6_3.symm, n6_2, n6_2.symm, n6_1, n6_1.symm, n6_0, n6_0.symm, n7_6, n7_6.symm, n7_5, n7_5.symm, n7_4, n7_4.symm, n7_3, n7_3.symm, n7_2, n7_2.symm, n7_1, n7_1.symm, n7_0, n7_0.symm, n8_7, n8_7.symm, n8_6, n8_6.symm, n8_5, n8_5.symm, n8_4, n8_4.symm, n8_3, n8_3.symm, n8_2, n8_2.symm, n8_1, n8_1.symm, n8_0, n8_0.symm, n9_8, n9_8.symm, n9_7, n9_7.symm, n9_6, n9_6.symm, n9_5, n9_5.symm, n9_4, n9_4.symm, n9_3, n9_3.symm, n9_2, n9_2.symm, n9_1, n9_1.symm, n9_0, n9_0.symm], by simp [va_up, n1_0, n1_0.symm, n2_1, n2_1.symm, n2_0, n2_0.symm, n3_2, n3_2.symm, n3_1, n3_1.symm, n3_0, n3_0.symm, n4_3, n4_3.symm, n4_2, n4_2.symm, n4_1, n4_1.symm, n4_0, n4_0.symm, n5_4, n5_4.symm, n5_3, n5_3.symm, n5_2, n5_2.symm, n5_1, n5_1.symm, n5_0, n5_0.symm, n6_5, n6_5.symm, n6_4, n6_4.symm, n6_3, n6_3.symm, n6_2, n6_2.symm, n6_1, n6_1.symm, n6_0, n6_0.symm, n7_6, n7_6.symm, n7_5, n7_5.symm, n7_4, n7_4.symm, n7_3, n7_3.symm, n7_2, n7_2.symm, n7_1, n7_1.symm, n7_0, n7_0.symm, n8_7, n8_7.symm, n8_6, n8_6.symm, n8_5, n8_5.symm, n8_4, n8_4.symm, n8_3, n8_3.symm, n8_2, n8_2.symm, n8_1, n8_1.symm, n8_0, n8_0.symm, n9_8, n9_8.symm, n9_7, n9_7.symm, n9_6, n9_6.symm, n9_5, n9_5.symm, n9_4, n9_4.symm, n9_3, n9_3.symm, n9_2, n9_2.symm, n9_1, n9_1.symm, n9_0, n9_0.symm], k8_0, c8.symm, n8_1, n8_3⟩
      | 4, _ => exact ⟨q8, rfl, by simp [u2r_at], by simp [va_up, n1_0, n1_0.symm, n2_1, n2_1.symm, n2_0, n2_0.symm, n3_2, n3_2.symm, n3_1, n3_1.symm, n3_0, n3_0.symm, n4_3, n4_3.symm, n4_2, n4_2.symm, n4_1, n4_1.symm, n4_0, n4_0.symm, n5_4, n5_4.symm, n5_3, n5_3.symm, n5_2, n5_2.symm, n5_1, n5_1.symm, n5_0, n5_0.symm, n6_5, n6_5.symm, n6_4, n6_4.symm, n6_3, n6_3.symm, n6_2, n6_2.symm, n6_1, n6_1.symm, n6_0, n6_0.symm, n7_6, n7_6.symm, n7_5, n7_5.symm, n7_4, n7_4.symm, n7_3, n7_3.symm, n7_2, n7_2.symm, n7_1, n7_1.symm, n7_0, n7_0.symm, n8_7, n8_7.symm, n8_6, n8_6.symm, n8_5, n8_5.symm, n8_4, n8_4.symm, n8_3, n8_3.symm, n8_2, n8_2.symm, n8_1, n8_1.symm, n8_0, n8_0.symm, n9_8, n9_8.symm, n9_7, n9_7.symm, n9_6, n9_6.symm, n9_5, n9_5.symm, n9_4, n9_4.symm, n9_3, n9_3.symm, n9_2, n9_2.symm, n9_1, n9_1.symm, n9_0, n9_0.symm], by simp [va_up, n1_0, n1_0.symm, n2_1, n2_1.symm, n2_0, n2_0.symm, n3_2, n3_2.symm, n3_1, n3_1.symm, n3_0, n3_0.symm, n4_3, n4_3.symm, n4_2, n4_2.symm, n4_1, n4_1.symm, n4_0, n4_0.symm, n5_4, n5_4.symm, n5_3, n5_3.symm, n5_2, n5_2.symm, n5_1, n5_1.symm, n5_0, n5_0.symm, n6_5, n6_5.symm, n6_4, n6_4.symm, n6_3, n6_3.symm, n6_2, n6_2.symm, n6_1, n6_1.symm, n6_0, n6_0.symm, n7_6, n7_6.symm, n7_5, n7_5.symm, n7_4, n7_4.symm, n7_3, n7_3.symm, n7_2, n7_2.symm, n7_1, n7_1.symm, n7_0, n7_0.symm, n8_7, n8_7.symm, n8_6, n8_6.symm, n8_5, n8_5.symm, n8_4, n8_4.symm, n8_3, n8_3.symm, n8_2, n8_2.symm, n8_1, n8_1.symm, n8_0, n8_0.symm, n9_8, n9_8.symm, n9_7, n9_7.symm, n9_6, n9_6.symm, n9_5, n9_5.symm, n9_4, n9_4.symm, n9_3, n9_3.symm, n9_2, n9_2.symm, n9_1, n9_1.symm, n9_0, n9_0.symm], k9_0, c9.symm, n9_1, n9_3⟩
    refine ⟨by simp [va_up, c0, c1, c2, c3, c4, c5, c6, c7, c8, c9, hc], ?_, ?_, ?_, by simp [va_up, n1_0, n1_0.symm, n2_1, n2_1.symm, n2_0, n2_0.symm, n3_2, n3_2.symm, n3_1, n3_1.symm, n3_0, n3_0.symm, n4_3, n4_3.symm, n4_2, n4_2.symm, n4_1, n4_1.symm, n4_0, n4_0.symm, n5_4, n5_4.symm, n5_3, n5_3.symm, n5_2, n5_2.symm, n5_1, n5_1.symm, n5_0, n5_0.symm, n6_5, n6_5.symm, n6_4, n6_4.symm, n6_3, n6_3.symm, n6_2, n6_2.symm, n6_1, n6_1.symm, n6_0, n6_0.symm, n7_6, n7_6.symm, n7_5, n7_5.symm, n7_4, n7_4.symm, n7_3, n7_3.symm, n7_2, n7_2.symm, n7_1, n7_1.symm, n7_0, n7_0.symm, n8_7, n8_7.symm, n8_6, n8_6.symm, n8_5, n8_5.symm, n8_4, n8_4.symm, n8_3, n8_3.symm, n8_2, n8_2.symm, n8_1, n8_1.symm, n8_0, n8_0.symm, n9_8, n9_8.symm, n9_7, n9_7.symm, n9_6, n9_6.symm, n9_5, n9_5.symm, n9_4, n9_4.symm, n9_3, n9_3.symm, n9_2, n9_2.symm, n9_1, n9_1.symm, n9_0, n9_0.symm], by simp [va_up, n1_0, n1_0.symm, n2_1, n2_1.symm, n2_0, n2_0.symm, n3_2, n3_2.symm, n3_1, n3_1.symm, n3_0, n3_0.symm, n4_3, n4_3.symm, n4_2, n4_2.symm, n4_1, n4_1.symm, n4_0, n4_0.symm, n5_4, n5_4.symm, n5_3, n5_3.symm, n5_2, n5_2.symm, n5_1, n5_1.symm, n5_0, n5_0.symm, n6_5, n6_5.symm, n6_4, n6_4.symm, n6_3, n6_3.symm, n6_2, n6_2.symm, n6_1, n6_1.symm, n6_0, n6_0.symm, n7_6, n7_6.symm, n7_5, n7_5.symm, n7_4, n7_4.symm, n7_3, n7_3.symm, n7_2, n7_2.symm, n7_1, n7_1.symm, n7_0, n7_0.symm, n8_7, n8_7.symm, n8_6, n8_6.symm, n8_5, n8_5.symm, n8_4, n8_4.symm, n8_3, n8_3.symm, n8_2, n8_2.symm, n8_1, n8_1.symm, n8_0, n8_0.symm, n9_8, n9_8.symm, n9_7, n9_7.symm, n9_6, n9_6.symm, n9_5, n9_5.symm, n9_4, n9_4.symm, n9_3, n9_3.symm, n9_2, n9_2.symm, n9_1, n9_1.symm, n9_0, n9_0.symm], ?_, ?_, ?_, ?_, fun p hp => ?_, by simp [va_up, n1_0, n1_0.symm, n2_1, n2_1.symm, n2_0, n2_0.symm, n3_2, n3_2.symm, n3_1, n3_1.symm, n3_0, n3_0.symm, n4_3, n4_3.symm, n4_2, n4_2.symm, n4_1, n4_1.symm, n4_0, n4_0.symm, n5_4, n5_4.symm, n5_3, n5_3.symm, n5_2, n5_2.symm, n5_1, n5_1.symm, n5_0, n5_0.symm, n6_5, n6_5.symm, n6_4, n6_4.symm, n6_3, n6_3.symm, n6_2, n6_2.symm, n6_1, n6_1.symm, n6_0, n6_0.symm, n7_6, n7_6.symm, n7_5, n7_5.symm, n7_4, n7_4.symm, n7_3, n7_3.symm, n7_2, n7_2.symm, n7_1, n7_1.symm, n7_0, n7_0.symm, n8_7, n8_7.symm, n8_6, n8_6.symm, n8_5, n8_5.symm, n8_4, n8_4.symm, n8_3, n8_3.symm, n8_2, n8_2.symm, n8_1, n8_1.symm, n8_0, n8_0.symm, n9_8, n9_8.symm, n9_7, n9_7.symm, n9_6, n9_6.symm, n9_5, n9_5.symm, n9_4, n9_4.symm, n9_3, n9_3.symm, n9_2, n9_2.symm, n9_1, n9_1.symm, n9_0, n9_0.symm], by simp [va_up, n1_0, n1_0.symm, n2_1, n2_1.symm, n2_0, n2_0.symm, n3_2, n3_2.symm, n3_1, n3_1.symm, n3_0, n3_0.symm, n4_3, n4_3.symm, n4_2, n4_2.symm, n4_1, n4_1.symm, n4_0, n4_0.symm, n5_4, n5_4.symm, n5_3, n5_3.symm, n5_2, n5_2.symm, n5_1, n5_1.symm, n5_0, n5_0.symm, n6_5, n6_5.symm, n6_4, n6_4.symm, n6_3, n6_3.symm, n6_2, n6_2.symm, n6_1, n6_1.symm, n6_0, n6_0.symm, n7_6, n7_6.symm, n7_5, n7_5.symm, n7_4, n7_4.symm, n7_3, n7_3.symm, n7_2, n7_2.symm, n7_1, n7_1.symm, n7_0, n7_0.symm, n8_7, n8_7.symm, n8_6, n8_6.symm, n8_5, n8_5.symm, n8_4, n8_4.symm, n8_3, n8_3.symm, n8_2, n8_2.symm, n8_1, n8_1.symm, n8_0, n8_0.symm, n9_8, n9_8.symm, n9_7, n9_7.symm, n9_6, n9_6.symm, n9_5, n9_5.symm, n9_4, n9_4.symm, n9_3, n9_3.symm, n9_2, n9_2.symm, n9_1, n9_1.symm, n9_0, n9_0.symm], by simp [va_up, n1_0, n1_0.symm, n2_1, n2_1.symm, n2_0, n2_0.symm, n3_2, n3_2.symm, n3_1, n3_1.symm, n3_0, n3_0.symm, n4_3, n4_3.symm, n4_2, n4_2.symm, n4_1, n4_1.symm, n4_0, n4_0.symm, n5_4, n5_4.symm, n5_3, n5_3.symm, n5_2, n5_2.symm, n5_1, n5_1.symm, n5_0, n5_0.symm, n6_5, n6_5.symm, n6_4, n6_4.symm, n6_3, n6_3.symm, n6_2, n6_2.symm, n6_1, n6_1.symm, n6_0, n6_0.symm, n7_6, n7_6.symm, n7_5, n7_5.symm, n7_4, n7_4.symm, n7_3, n7_3.symm, n7_2, n7_2.symm, n7_1, n7_1.symm, n7_0, n7_0.symm, n8_7, n8_7.symm, n8_6, n8_6.symm, n8_5, n8_5.symm, n8_4, n8_4.symm, n8_3, n8_3.symm, n8_2, n8_2.symm, n8_1, n8_1.symm, n8_0, n8_0.symm, n9_8, n9_8.symm, n9_7, n9_7.symm, n9_6, n9_6.symm, n9_5, n9_5.symm, n9_4, n9_4.symm, n9_3, n9_3.symm, n9_2, n9_2.symm, n9_1, n9_1.symm, n9_0, n9_0.symm], by simp [va_up, n1_0, n1_0.symm, n2_1, n2_1.symm, n2_0, n2_0.symm, n3_2, n3_2.symm, n3_1, n3_1.symm, n3_0, n3_0.symm, n4_3, n4_3.symm, n4_2, n4_2.symm, n4_1, n4_1.symm, n4_0, n4_0.symm, n5_4, n5_4.symm, n5_3, n5_3.symm, n5_2, n5_2.symm, n5_1, n5_1.symm, n5_0, n5_0.symm, n6_5, n6_5.symm, n6_4, n6_4.symm, n6_3, n6_3.symm, n6_2, n6_2.symm, n6_1, n6_1.symm, n6_0, n6_0.symm, n7_6, n7_6.symm, n7_5, n7_5.symm, n7_4, n7_4.symm, n7_3, n7_3.symm, n7_2, n7_2.symm, n7_1, n7_1.symm, n7_0, n7_0.symm, n8_7, n8_7.symm, n8_6, n8_6.symm, n8_5, n8_5.symm, n8_4, n8_4.symm, n8_3, n8_3.symm, n8_2, n8_2.symm, n8_1, n8_1.symm, n8_0, n8_0.symm, n9_8, n9_8.symm, n9_7, n9_7.symm, n9_6, n9_6.symm, n9_5, n9_5.symm, n9_4, n9_4.symm, n9_3, n9_3.symm, n9_2, n9_2.symm, n9_1, n9_1.symm, n9_0, n9_0.symm], ?_, ?_⟩
    · rw [u2r_ne _ _ (by decide), u2r_ne _ _ (by decide), u2r_ne _ _ (by decide), u2r_ne _ _ (by decide), u2r_at, if_pos rfl]
      rfl
    · rw [u2r_ne _ _ (by decide), u2r_ne _ _ (by decide), u2r_at, if_pos rfl]
      rfl
    · rw [u2r_at, if_pos rfl]
      rfl
    · rw [u2_ne _ _ (by decide), u2_ne _ _ (by decide), u2_at, if_pos rfl]
    · rw [u2_ne _ _ (by decide), u2_at, if_pos rfl]
    · rw [u2_ne _ _ (by decide), u2_ne _ _ (by decide), u2_ne _ _ (by decide), hz]
      rfl
    · rw [u2_at, if_pos rfl]
    · obtain ⟨l, e, g1, g2, g3, g4, g5, g6, g7⟩ := hlist p hp
      have e9 : (if 9 = 8 then q1 else if 9 = 9 then [q4, q5, q6, q7, q8].getD p 0 else if 9 = 10 then q2 else if 9 = 11 then ra else if 9 = 12 then q3 else rb) = l := e
      dsimp only
      rw [e9]
      obtain ⟨d1, d2, -⟩ := hD l g4
      exact ⟨g1, g2, g3, by rw [u2r_q _ _ g5, u2r_q _ _ g7, u2r_q _ _ g5, u2r_q _ _ g6, u2r_q _ _ g5]; exact d2 18, by rw [u2r_q _ _ g5, u2r_q _ _ g7, u2r_q _ _ g5, u2r_q _ _ g6, u2r_q _ _ g5]; exact d2 19, by rw [u2_q _ _ g5, u2_q _ _ g5, u2_q _ _ g5, d1]; rfl⟩
    · refine ⟨by simp [va_up, n1_0, n1_0.symm, n2_1, n2_1.symm, n2_0, n2_0.symm, n3_2, n3_2.symm, n3_1, n3_1.symm, n3_0, n3_0.symm, n4_3, n4_3.symm, n4_2, n4_2.symm, n4_1, n4_1.symm, n4_0, n4_0.symm, n5_4, n5_4.symm, n5_3, n5_3.symm, n5_2, n5_2.symm, n5_1, n5_1.symm, n5_0, n5_0.symm, n6_5, n6_5.symm, n6_4, n6_4.symm, n6_3, n6_3.symm, n6_2, n6_2.symm, n6_1, n6_1.symm, n6_0, n6_0.symm, n7_6, n7_6.symm, n7_5, n7_5.symm, n7_4, n7_4.symm, n7_3, n7_3.symm, n7_2, n7_2.symm, n7_1, n7_1.symm, n7_0, n7_0.symm, n8_7, n8_7.symm, n8_6, n8_6.symm, n8_5, n8_5.symm, n8_4, n8_4.symm, n8_3, n8_3.symm, n8_2, n8_2.symm, n8_1, n8_1.symm, n8_0, n8_0.symm, n9_8, n9_8.symm, n9_7, n9_7.symm, n9_6, n9_6.symm, n9_5, n9_5.symm, n9_4, n9_4.symm, n9_3, n9_3.symm, n9_2, n9_2.symm, n9_1, n9_1.symm, n9_0, n9_0.symm], by simp [va_up, n1_0, n1_0.symm, n2_1, n2_1.symm, n2_0, n2_0.symm, n3_2, n3_2.symm, n3_1, n3_1.symm, n3_0, n3_0.symm, n4_3, n4_3.symm, n4_2, n4_2.symm, n4_1, n4_1.symm, n4_0, n4_0.symm, n5_4, n5_4.symm, n5_3, n5_3.symm, n5_2, n5_2.symm, n5_1, n5_1.symm, n5_0, n5_0.symm, n6_5, n6_5.symm, n6_4, n6_4.symm, n6_3, n6_3.symm, n6_2, n6_2.symm, n6_1, n6_1.symm, n6_0, n6_0.symm, n7_6, n7_6.symm, n7_5, n7_5.symm, n7_4, n7_4.symm, n7_3, n7_3.symm, n7_2, n7_2.symm, n7_1, n7_1.symm, n7_0, n7_0.symm, n8_7, n8_7.symm, n8_6, n8_6.symm, n8_5, n8_5.symm, n8_4, n8_4.symm, n8_3, n8_3.symm, n8_2, n8_2.symm, n8_1, n8_1.symm, n8_0, n8_0.symm, n9_8, n9_8.symm, n9_7, n9_7.symm, n9_6, n9_6.symm, n9_5, n9_5.symm, n9_4, n9_4.symm, n9_3, n9_3.symm, n9_2, n9_2.symm, n9_1, n9_1.symm, n9_0, n9_0.symm], ?_, by simp [va_up, n1_0, n1_0.symm, n2_1, n2_1.symm, n2_0, n2_0.symm, n3_2, n3_2.symm, n3_1, n3_1.symm, n3_0, n3_0.symm, n4_3, n4_3.symm, n4_2, n4_2.symm, n4_1, n4_1.symm, n4_0, n4_0.symm, n5_4, n5_4.symm, n5_3, n5_3.symm, n5_2, n5_2.symm, n5_1, n5_1.symm, n5_0, n5_0.symm, n6_5, n6_5.symm, n6_4, n6_4.symm, n6_3, n6_3.symm, n6_2, n6_2.symm, n6_1, n6_1.symm, n6_0, n6_0.symm, n7_6, n7_6.symm, n7_5, n7_5.symm, n7_4, n7_4.symm, n7_3, n7_3.symm, n7_2, n7_2.symm, n7_1, n7_1.symm, n7_0, n7_0.symm, n8_7, n8_7.symm, n8_6, n8_6.symm, n8_5, n8_5.symm, n8_4, n8_4.symm, n8_3, n8_3.symm, n8_2, n8_2.symm, n8_1, n8_1.symm, n8_0, n8_0.symm, n9_8, n9_8.symm, n9_7, n9_7.symm, n9_6, n9_6.symm, n9_5, n9_5.symm, n9_4, n9_4.symm, n9_3, n9_3.symm, n9_2, n9_2.symm, n9_1, n9_1.symm, n9_0, n9_0.symm], by decide, 0, ?_, by decide, ?_, by decide, fun k x hx => by cases hx⟩
      · show (u2r (u2r (u2r (u2r (u2r R 7 c (some q1)) 35 q2 (some ra)) 8 c (some q2)) 35 q3 (some rb)) 9 c (some q3)) 35 q2 = some ra
        rw [u2r_ne _ _ (by decide), u2r_at, if_neg n3_1.symm, u2r_ne _ _ (by decide), u2r_at, if_pos rfl]
      · show (u2 (u2 (u2 I 10 c (nI 1)) 11 c (nI 1)) 13 c (-3)) 36 q2 = nI 0
        rw [u2_ne _ _ (by decide), u2_ne _ _ (by decide), u2_ne _ _ (by decide), z2.1]
        rfl
      · show (u2 (u2 (u2 I 10 c (nI 1)) 11 c (nI 1)) 13 c (-3)) 37 q2 = nI 0
        rw [u2_ne _ _ (by decide), u2_ne _ _ (by decide), u2_ne _ _ (by decide), z2.1]
        rfl
    · refine ⟨by simp [va_up, n1_0, n1_0.symm, n2_1, n2_1.symm, n2_0, n2_0.symm, n3_2, n3_2.symm, n3_1, n3_1.symm, n3_0, n3_0.symm, n4_3, n4_3.symm, n4_2, n4_2.symm, n4_1, n4_1.symm, n4_0, n4_0.symm, n5_4, n5_4.symm, n5_3, n5_3.symm, n5_2, n5_2.symm, n5_1, n5_1.symm, n5_0, n5_0.symm, n6_5, n6_5.symm, n6_4, n6_4.symm, n6_3, n6_3.symm, n6_2, n6_2.symm, n6_1, n6_1.symm, n6_0, n6_0.symm, n7_6, n7_6.symm, n7_5, n7_5.symm, n7_4, n7_4.symm, n7_3, n7_3.symm, n7_2, n7_2.symm, n7_1, n7_1.symm, n7_0, n7_0.symm, n8_7, n8_7.symm, n8_6, n8_6.symm, n8_5, n8_5.symm, n8_4, n8_4.symm, n8_3, n8_3.symm, n8_2, n8_2.symm, n8_1, n8_1.symm, n8_0, n8_0.symm, n9_8, n9_8.symm, n9_7, n9_7.symm, n9_6, n9_6.symm, n9_5, n9_5.symm, n9_4, n9_4.symm, n9_3, n9_3.symm, n9_2, n9_2.symm, n9_1, n9_1.symm, n9_0, n9_0.symm], by simp [va_up, n1_0, n1_0.symm, n2_1, n2_1.symm, n2_0, n2_0.symm, n3_2, n3_2.symm, n3_1, n3_1.symm, n3_0, n3_0.symm, n4_3, n4_3.symm, n4_2, n4_2.symm, n4_1, n4_1.symm, n4_0, n4_0.symm, n5_4, n5_4.symm, n5_3, n5_3.symm, n5_2, n5_2.symm, n5_1, n5_1.symm, n5_0, n5_0.symm, n6_5, n6_5.symm, n6_4, n6_4.symm, n6_3, n6_3.symm, n6_2, n6_2.symm, n6_1, n6_1.symm, n6_0, n6_0.symm, n7_6, n7_6.symm, n7_5, n7_5.symm, n7_4, n7_4.symm, n7_3, n7_3.symm, n7_2, n7_2.symm, n7_1, n7_1.symm, n7_0, n7_0.symm, n8_7, n8_7.symm, n8_6, n8_6.symm, n8_5, n8_5.symm, n8_4, n8_4.symm, n8_3, n8_3.symm, n8_2, n8_2.symm, n8_1, n8_1.symm, n8_0, n8_0.symm, n9_8, n9_8.symm, n9_7, n9_7.symm, n9_6, n9_6.symm, n9_5, n9_5.symm, n9_4, n9_4.symm, n9_3, n9_3.symm, n9_2, n9_2.symm, n9_1, n9_1.symm, n9_0, n9_0.symm], ?_, by simp [va_up, n1_0, n1_0.symm, n2_1, n2_1.symm, n2_0, n2_0.symm, n3_2, n3_2.symm, n3_1, n3_1.symm, n3_0, n3_0.symm, n4_3, n4_3.symm, n4_2, n4_2.symm, n4_1, n4_1.symm, n4_0, n4_0.symm, n5_4, n5_4.symm, n5_3, n5_3.symm, n5_2, n5_2.symm, n5_1, n5_1.symm, n5_0, n5_0.symm, n6_5, n6_5.symm, n6_4, n6_4.symm, n6_3, n6_3.symm, n6_2, n6_2.symm, n6_1, n6_1.symm, n6_0, n6_0.symm, n7_6, n7_6.symm, n7_5, n7_5.symm, n7_4, n7_4.symm, n7_3, n7_3.symm, n7_2, n7_2.symm, n7_1, n7_1.symm, n7_0, n7_0.symm, n8_7, n8_7.symm, n8_6, n8_6.symm, n8_5, n8_5.symm, n8_4, n8_4.symm, n8_3, n8_3.symm, n8_2, n8_2.symm, n8_1, n8_1.symm, n8_0, n8_0.symm, n9_8, n9_8.symm, n9_7, n9_7.symm, n9_6, n9_6.symm, n9_5, n9_5.symm, n9_4, n9_4.symm, n9_3, n9_3.symm, n9_2, n9_2.symm, n9_1, n9_1.symm, n9_0, n9_0.symm], by decide, 0, ?_, by decide, ?_, by decide, fun k x hx => by cases hx⟩
      · show (u2r (u2r (u2r (u2r (u2r R 7 c (some q1)) 35 q2 (some ra)) 8 c (some q2)) 35 q3 (some rb)) 9 c (some q3)) 35 q3 = some rb
        rw [u2r_ne _ _ (by decide), u2r_at, if_pos rfl]
      · show (u2 (u2 (u2 I 10 c (nI 1)) 11 c (nI 1)) 13 c (-3)) 36 q3 = nI 0
        rw [u2_ne _ _ (by decide), u2_ne _ _ (by decide), u2_ne _ _ (by decide), z3.1]
        rfl
      · show (u2 (u2 (u2 I 10 c (nI 1)) 11 c (nI 1)) 13 c (-3)) 37 q3 = nI 0
        rw [u2_ne _ _ (by decide), u2_ne _ _ (by decide), u2_ne _ _ (by decide), z3.1]
        rfl
set_option maxRecDepth 20000 in
theorem c_Chn_init {G : Gt} {K N : Nat → Nat} {I : Nat → Nat → Int32} {R : Nat → Nat → Option Nat} {L : Nat → Nat → Int64} {E : Nat → Nat → Int32} {El : Nat → Nat → Int64} {Er : Nat → Nat → Option Nat} (ρ : Nat → Nat) (m : Nat) {c : Nat} (hD : DF K I R L E El Er) (hc : K c = 1 + 1) (hz : ∀ g, I g c = 0) : CallE G m_Chn_init 2 29 [.ref c] (hN K N I R L E El Er) (0 + 1 + 1 + 1 + 1 + 1 + (0 + 1) + 1 + (0 + 1) + 1 + 1) (0 + 3 + 3 + 3 + 3 + 3 + (0 + 200) + 3 + (0 + 20) + 3 + 5) none (fun h' => ∃ (ρ' K' N' : Nat → Nat) (I' : Nat → Nat → Int32) (R' : Nat → Nat → Option Nat) (L' : Nat → Nat → Int64) (E' : Nat → Nat → Int32) (El' : Nat → Nat → Int64) (Er' : Nat → Nat → Option Nat) (a : Nat → Nat → Nat), h' = hN K' N' I' R' L' E' El' Er' ∧ Gw c ρ K N I R L E El Er ρ' K' N' I' R' L' E' El' Er' ∧ ChF m c a ρ' K' N' I' R' Er') := by
  refine CallS.of (Nat.le_of_ble_eq_true rfl) ?_
  refine wp_aload_n d_Chn_init_0 rfl 0 rfl ?_
  refine wp_objInit d_Chn_init_1 wM_Chn_3 ⟨Nat.le_of_ble_eq_true rfl, Nat.le_of_ble_eq_true rfl⟩ ?_
  refine wp_aload_n d_Chn_init_4 rfl 0 rfl ?_
  refine wp_iconst (v := nI 5) d_Chn_init_5 (by decide) ?_
  refine wn_newq (t := 4) (len := 5) d_Chn_init_6 rfl (by decide) wA_Chn_9 wO_4 (by omega) (hD) (fun q1 hq1 => ?_)
  refine wn_putF_Chn (ty := t_Chn 0) (v := va_rf (some q1)) (I' := I) (R' := u2r R 7 c (some q1)) (L' := L) d_Chn_init_9 (kup hq1 (hc)) 0 (by decide) wF_Chn_11 rfl rfl rfl (t_Chn_ok 0 (by decide)) rfl rfl sF_7 (oR _ _ _ 7 _) ?_
  refine wp_aload_n d_Chn_init_12 rfl 0 rfl ?_
  refine wn_new_Frs d_Chn_init_13 wC_Chn_17 (DF.pR (DF.pK (hD) (by decide)) (knz (kup hq1 (hc)))) (fun q2 hq2 => ?_)
  refine wp_dup d_Chn_init_16 rfl ?_
  refine wp_bipush (v := nI 20) d_Chn_init_17 (by decide) ?_
  refine wp_callEU (k' := (0 + 1)) (n' := (0 + 20)) (r := 2) d_Chn_init_19 (link_I (as := [.int (nI 20)]) (rest := [.ref q2, .ref c]) d_Chn_init_19 cal_Frs_init rfl wM_Chn_19 rfl) cal_Frs_init (c_Frs_init (cap := 20) (DF.pK (DF.pR (DF.pK (hD) (by decide)) (knz (kup hq1 (hc)))) (by decide)) (kat _ _ _) (by decide) (by decide)) (Nat.le_of_ble_eq_true rfl) ⟨Nat.le_of_ble_eq_true rfl, Nat.le_of_ble_eq_true rfl⟩ (fun h' q19 => ?_)
  obtain ⟨ra, hra, rfl⟩ := q19
  have e1ra : q1 ≠ ra := kne hra (knzA (kupA hq2 (kat _ _ _)))
  refine wn_putF_Chn (ty := t_Chn 1) (v := va_rf (some q2)) (I' := I) (R' := u2r (u2r (u2r R 7 c (some q1)) 35 q2 (some ra)) 8 c (some q2)) (L' := L) d_Chn_init_22 (kup hra (kup hq2 (kup hq1 (hc)))) 1 (by decide) wF_Chn_22 rfl rfl rfl (t_Chn_ok 1 (by decide)) rfl rfl sF_8 (oR _ _ _ 8 _) ?_
  refine wp_aload_n d_Chn_init_25 rfl 0 rfl ?_
  refine wn_new_Frs d_Chn_init_26 wC_Chn_17 (DF.pR (DF.pR (DF.pK (DF.pK (DF.pR (DF.pK (hD) (by decide)) (knz (kup hq1 (hc)))) (by decide)) (by decide)) (knz (kup hra (kat _ _ _)))) (knz (kup hra (kup hq2 (kup hq1 (hc)))))) (fun q3 hq3 => ?_)
  refine wp_dup d_Chn_init_29 rfl ?_
  refine wp_sipush (v := nI 200) d_Chn_init_30 (by decide) ?_
  refine wp_callEU (k' := (0 + 1)) (n' := (0 + 200)) (r := 2) d_Chn_init_33 (link_I (as := [.int (nI 200)]) (rest := [.ref q3, .ref c]) d_Chn_init_33 cal_Frs_init rfl wM_Chn_19 rfl) cal_Frs_init (c_Frs_init (cap := 200) (DF.pK (DF.pR (DF.pR (DF.pK (DF.pK (DF.pR (DF.pK (hD) (by decide)) (knz (kup hq1 (hc)))) (by decide)) (by decide)) (knz (kup hra (kat _ _ _)))) (knz (kup hra (kup hq2 (kup hq1 (hc)))))) (by decide)) (kat _ _ _) (by decide) (by decide)) (Nat.le_of_ble_eq_true rfl) ⟨Nat.le_of_ble_eq_true rfl, Nat.le_of_ble_eq_true rfl⟩ (fun h' q33 => ?_)
  obtain ⟨rb, hrb, rfl⟩ := q33
  have e1rb : q1 ≠ rb := kne hrb (knzA (kupA hq3 (kupA hra (kupA hq2 (kat _ _ _)))))
  refine wn_putF_Chn (ty := t_Chn 2) (v := va_rf (some q3)) (I' := I) (R' := u2r (u2r (u2r (u2r (u2r R 7 c (some q1)) 35 q2 (some ra)) 8 c (some q2)) 35 q3 (some rb)) 9 c (some q3)) (L' := L) d_Chn_init_36 (kup hrb (kup hq3 (kup hra (kup hq2 (kup hq1 (hc)))))) 2 (by decide) wF_Chn_26 rfl rfl rfl (t_Chn_ok 2 (by decide)) rfl rfl sF_9 (oR _ _ _ 9 _) ?_
  refine wp_aload_n d_Chn_init_39 rfl 0 rfl ?_
  refine wp_iconst (v := nI 1) d_Chn_init_40 (by decide) ?_
  refine wn_put_Chn (ty := t_Chn 3) (I' := u2 I 10 c (nI 1)) (R' := u2r (u2r (u2r (u2r (u2r R 7 c (some q1)) 35 q2 (some ra)) 8 c (some q2)) 35 q3 (some rb)) 9 c (some q3)) (L' := L) d_Chn_init_41 (kup hrb (kup hq3 (kup hra (kup hq2 (kup hq1 (hc)))))) 3 (by decide) wF_Chn_29 rfl (t_Chn_ok 3 (by decide)) rfl rfl sF_10 (oI _ _ _ 10 _) ?_
  refine wp_aload_n d_Chn_init_44 rfl 0 rfl ?_
  refine wp_iconst (v := nI 1) d_Chn_init_45 (by decide) ?_
  refine wn_put_Chn (ty := t_Chn 4) (I' := u2 (u2 I 10 c (nI 1)) 11 c (nI 1)) (R' := u2r (u2r (u2r (u2r (u2r R 7 c (some q1)) 35 q2 (some ra)) 8 c (some q2)) 35 q3 (some rb)) 9 c (some q3)) (L' := L) d_Chn_init_46 (kup hrb (kup hq3 (kup hra (kup hq2 (kup hq1 (hc)))))) 4 (by decide) wF_Chn_33 rfl (t_Chn_ok 4 (by decide)) rfl rfl sF_11 (oI _ _ _ 11 _) ?_
  refine wp_aload_n d_Chn_init_49 rfl 0 rfl ?_
  refine wp_bipush (v := -3) d_Chn_init_50 (by decide) ?_
  refine wn_put_Chn (ty := t_Chn 6) (I' := u2 (u2 (u2 I 10 c (nI 1)) 11 c (nI 1)) 13 c (-3)) (R' := u2r (u2r (u2r (u2r (u2r R 7 c (some q1)) 35 q2 (some ra)) 8 c (some q2)) 35 q3 (some rb)) 9 c (some q3)) (L' := L) d_Chn_init_52 (kup hrb (kup hq3 (kup hra (kup hq2 (kup hq1 (hc)))))) 6 (by decide) wF_Chn_36 rfl (t_Chn_ok 6 (by decide)) rfl rfl sF_13 (oI _ _ _ 13 _) ?_
  refine wp_iconst (v := nI 0) d_Chn_init_55 (by decide) ?_
  refine wp_istore_n (lv' := [(1, .int (nI 0)), (0, .ref c)]) d_Chn_init_56 rfl (by decide) rfl ?_
  refine wp_iload_n d_Chn_init_57 rfl 0 rfl ?_
  refine wp_iconst (v := nI 5) d_Chn_init_58 (by decide) ?_
  refine wp_geN (tgt := 81) d_Chn_init_59 (by decide) (by omega) (by omega) (fun c => absurd c (by decide)) (fun _ => ?_)
  refine wp_aload_n d_Chn_init_62 rfl 1 rfl ?_
  refine wn_get_Chn d_Chn_init_63 (kup hrb (kup hq3 (kup hra (kup hq2 (kup hq1 (hc)))))) 0 (by decide) wF_Chn_11 rfl ?_
  refine wp_toVR (o := some q1) (z := .ref q1) (by rw [u2r_ne _ _ (by decide), u2r_ne _ _ (by decide), u2r_ne _ _ (by decide), u2r_ne _ _ (by decide), u2r_at, if_pos rfl]) rfl ?_
  refine wp_iload_n d_Chn_init_66 rfl 0 rfl ?_
  refine wn_new_Lst d_Chn_init_67 wC_Chn_9 (DF.pI (DF.pI (DF.pI (DF.pR (DF.pR (DF.pK (DF.pK (DF.pR (DF.pR (DF.pK (DF.pK (DF.pR (DF.pK (hD) (by decide)) (knz (kup hq1 (hc)))) (by decide)) (by decide)) (knz (kup hra (kat _ _ _)))) (knz (kup hra (kup hq2 (kup hq1 (hc)))))) (by decide)) (by decide)) (knz (kup hrb (kat _ _ _)))) (knz (kup hrb (kup hq3 (kup hra (kup hq2 (kup hq1 (hc)))))))) (knz (kup hrb (kup hq3 (kup hra (kup hq2 (kup hq1 (hc)))))))) (knz (kup hrb (kup hq3 (kup hra (kup hq2 (kup hq1 (hc)))))))) (knz (kup hrb (kup hq3 (kup hra (kup hq2 (kup hq1 (hc)))))))) (fun q4 hq4 => ?_)
  refine wp_dup d_Chn_init_70 rfl ?_
  refine wp_callU (r := 3) d_Chn_init_71 (link_IN (as := []) (rest := [.ref q4, .int (nI 0), .ref q1]) d_Chn_init_71 cal_Lst_init rfl wN_Chn_39 wM_Chn_39 rfl) cal_Lst_init (c_Lst_init) (Nat.le_of_ble_eq_true rfl) ⟨Nat.le_of_ble_eq_true rfl, Nat.le_of_ble_eq_true rfl⟩ ?_
  refine wn_ast d_Chn_init_74 (kupA hq4 (kupA hrb (kupA hq3 (kupA hra (kupA hq2 (kat _ _ _)))))) rfl (by decide) (kat _ _ _) (by decide) rfl (by rw [show va_up (va_up (va_up N q1 5) ra 20) rb 200 q1 = 5 by simp [va_up, e1ra, e1rb]]; omega) (by rw [show va_up (va_up (va_up N q1 5) ra 20) rb 200 q1 = 5 by simp [va_up, e1ra, e1rb]]; omega) ?_
  refine wp_iinc (lv' := [(1, .int (nI (0 + 1))), (0, .ref c)]) d_Chn_init_75 0 rfl (nI_1 _) (by decide) rfl ?_
  refine wp_goto (tgt := 57) d_Chn_init_78 (by decide) ?_
  refine wp_iload_n d_Chn_init_57 rfl 0 rfl ?_
  refine wp_iconst (v := nI 5) d_Chn_init_58 (by decide) ?_
  refine wp_geN (tgt := 81) d_Chn_init_59 (by decide) (by omega) (by omega) (fun c => absurd c (by decide)) (fun _ => ?_)
  refine wp_aload_n d_Chn_init_62 rfl 1 rfl ?_
  refine wn_get_Chn d_Chn_init_63 (kup hq4 (kup hrb (kup hq3 (kup hra (kup hq2 (kup hq1 (hc))))))) 0 (by decide) wF_Chn_11 rfl ?_
  refine wp_toVR (o := some q1) (z := .ref q1) (by rw [u2r_ne _ _ (by decide), u2r_ne _ _ (by decide), u2r_ne _ _ (by decide), u2r_ne _ _ (by decide), u2r_at, if_pos rfl]) rfl ?_
  refine wp_iload_n d_Chn_init_66 rfl 0 rfl ?_
  refine wn_new_Lst d_Chn_init_67 wC_Chn_9 (DF.pEr (DF.pK (DF.pI (DF.pI (DF.pI (DF.pR (DF.pR (DF.pK (DF.pK (DF.pR (DF.pR (DF.pK (DF.pK (DF.pR (DF.pK (hD) (by decide)) (knz (kup hq1 (hc)))) (by decide)) (by decide)) (knz (kup hra (kat _ _ _)))) (knz (kup hra (kup hq2 (kup hq1 (hc)))))) (by decide)) (by decide)) (knz (kup hrb (kat _ _ _)))) (knz (kup hrb (kup hq3 (kup hra (kup hq2 (kup hq1 (hc)))))))) (knz (kup hrb (kup hq3 (kup hra (kup hq2 (kup hq1 (hc)))))))) (knz (kup hrb (kup hq3 (kup hra (kup hq2 (kup hq1 (hc)))))))) (knz (kup hrb (kup hq3 (kup hra (kup hq2 (kup hq1 (hc)))))))) (by decide)) (knzA (kupA hq4 (kupA hrb (kupA hq3 (kupA hra (kupA hq2 (kat _ _ _)))))))) (fun q5 hq5 => ?_)
  refine wp_dup d_Chn_init_70 rfl ?_
  refine wp_callU (r := 3) d_Chn_init_71 (link_IN (as := []) (rest := [.ref q5, .int (nI 1), .ref q1]) d_Chn_init_71 cal_Lst_init rfl wN_Chn_39 wM_Chn_39 rfl) cal_Lst_init (c_Lst_init) (Nat.le_of_ble_eq_true rfl) ⟨Nat.le_of_ble_eq_true rfl, Nat.le_of_ble_eq_true rfl⟩ ?_
  refine wn_ast d_Chn_init_74 (kupA hq5 (kupA hq4 (kupA hrb (kupA hq3 (kupA hra (kupA hq2 (kat _ _ _))))))) rfl (by decide) (kat _ _ _) (by decide) rfl (by rw [show va_up (va_up (va_up N q1 5) ra 20) rb 200 q1 = 5 by simp [va_up, e1ra, e1rb]]; omega) (by rw [show va_up (va_up (va_up N q1 5) ra 20) rb 200 q1 = 5 by simp [va_up, e1ra, e1rb]]; omega) ?_
  refine wp_iinc (lv' := [(1, .int (nI (1 + 1))), (0, .ref c)]) d_Chn_init_75 0 rfl (nI_1 _) (by decide) rfl ?_
  refine wp_goto (tgt := 57) d_Chn_init_78 (by decide) ?_
  refine wp_iload_n d_Chn_init_57 rfl 0 rfl ?_
  refine wp_iconst (v := nI 5) d_Chn_init_58 (by decide) ?_
  refine wp_geN (tgt := 81) d_Chn_init_59 (by decide) (by omega) (by omega) (fun c => absurd c (by decide)) (fun _ => ?_)
  refine wp_aload_n d_Chn_init_62 rfl 1 rfl ?_
  refine wn_get_Chn d_Chn_init_63 (kup hq5 (kup hq4 (kup hrb (kup hq3 (kup hra (kup hq2 (kup hq1 (hc)))))))) 0 (by decide) wF_Chn_11 rfl ?_
  refine wp_toVR (o := some q1) (z := .ref q1) (by rw [u2r_ne _ _ (by decide), u2r_ne _ _ (by decide), u2r_ne _ _ (by decide), u2r_ne _ _ (by decide), u2r_at, if_pos rfl]) rfl ?_
  refine wp_iload_n d_Chn_init_66 rfl 0 rfl ?_
  refine wn_new_Lst d_Chn_init_67 wC_Chn_9 (DF.pEr (DF.pK (DF.pEr (DF.pK (DF.pI (DF.pI (DF.pI (DF.pR (DF.pR (DF.pK (DF.pK (DF.pR (DF.pR (DF.pK (DF.pK (DF.pR (DF.pK (hD) (by decide)) (knz (kup hq1 (hc)))) (by decide)) (by decide)) (knz (kup hra (kat _ _ _)))) (knz (kup hra (kup hq2 (kup hq1 (hc)))))) (by decide)) (by decide)) (knz (kup hrb (kat _ _ _)))) (knz (kup hrb (kup hq3 (kup hra (kup hq2 (kup hq1 (hc)))))))) (knz (kup hrb (kup hq3 (kup hra (kup hq2 (kup hq1 (hc)))))))) (knz (kup hrb (kup hq3 (kup hra (kup hq2 (kup hq1 (hc)))))))) (knz (kup hrb (kup hq3 (kup hra (kup hq2 (kup hq1 (hc)))))))) (by decide)) (knzA (kupA hq4 (kupA hrb (kupA hq3 (kupA hra (kupA hq2 (kat _ _ _)))))))) (by decide)) (knzA (kupA hq5 (kupA hq4 (kupA hrb (kupA hq3 (kupA hra (kupA hq2 (kat _ _ _))))))))) (fun q6 hq6 => ?_)
  refine wp_dup d_Chn_init_70 rfl ?_
  refine wp_callU (r := 3) d_Chn_init_71 (link_IN (as := []) (rest := [.ref q6, .int (nI 2), .ref q1]) d_Chn_init_71 cal_Lst_init rfl wN_Chn_39 wM_Chn_39 rfl) cal_Lst_init (c_Lst_init) (Nat.le_of_ble_eq_true rfl) ⟨Nat.le_of_ble_eq_true rfl, Nat.le_of_ble_eq_true rfl⟩ ?_
  refine wn_ast d_Chn_init_74 (kupA hq6 (kupA hq5 (kupA hq4 (kupA hrb (kupA hq3 (kupA hra (kupA hq2 (kat _ _ _)))))))) rfl (by decide) (kat _ _ _) (by decide) rfl (by rw [show va_up (va_up (va_up N q1 5) ra 20) rb 200 q1 = 5 by simp [va_up, e1ra, e1rb]]; omega) (by rw [show va_up (va_up (va_up N q1 5) ra 20) rb 200 q1 = 5 by simp [va_up, e1ra, e1rb]]; omega) ?_
  refine wp_iinc (lv' := [(1, .int (nI (2 + 1))), (0, .ref c)]) d_Chn_init_75 0 rfl (nI_1 _) (by decide) rfl ?_
  refine wp_goto (tgt := 57) d_Chn_init_78 (by decide) ?_
  refine wp_iload_n d_Chn_init_57 rfl 0 rfl ?_
  refine wp_iconst (v := nI 5) d_Chn_init_58 (by decide) ?_
  refine wp_geN (tgt := 81) d_Chn_init_59 (by decide) (by omega) (by omega) (fun c => absurd c (by decide)) (fun _ => ?_)
  refine wp_aload_n d_Chn_init_62 rfl 1 rfl ?_
  refine wn_get_Chn d_Chn_init_63 (kup hq6 (kup hq5 (kup hq4 (kup hrb (kup hq3 (kup hra (kup hq2 (kup hq1 (hc))))))))) 0 (by decide) wF_Chn_11 rfl ?_
  refine wp_toVR (o := some q1) (z := .ref q1) (by rw [u2r_ne _ _ (by decide), u2r_ne _ _ (by decide), u2r_ne _ _ (by decide), u2r_ne _ _ (by decide), u2r_at, if_pos rfl]) rfl ?_
  refine wp_iload_n d_Chn_init_66 rfl 0 rfl ?_
  refine wn_new_Lst d_Chn_init_67 wC_Chn_9 (DF.pEr (DF.pK (DF.pEr (DF.pK (DF.pEr (DF.pK (DF.pI (DF.pI (DF.pI (DF.pR (DF.pR (DF.pK (DF.pK (DF.pR (DF.pR (DF.pK (DF.pK (DF.pR (DF.pK (hD) (by decide)) (knz (kup hq1 (hc)))) (by decide)) (by decide)) (knz (kup hra (kat _ _ _)))) (knz (kup hra (kup hq2 (kup hq1 (hc)))))) (by decide)) (by decide)) (knz (kup hrb (kat _ _ _)))) (knz (kup hrb (kup hq3 (kup hra (kup hq2 (kup hq1 (hc)))))))) (knz (kup hrb (kup hq3 (kup hra (kup hq2 (kup hq1 (hc)))))))) (knz (kup hrb (kup hq3 (kup hra (kup hq2 (kup hq1 (hc)))))))) (knz (kup hrb (kup hq3 (kup hra (kup hq2 (kup hq1 (hc)))))))) (by decide)) (knzA (kupA hq4 (kupA hrb (kupA hq3 (kupA hra (kupA hq2 (kat _ _ _)))))))) (by decide)) (knzA (kupA hq5 (kupA hq4 (kupA hrb (kupA hq3 (kupA hra (kupA hq2 (kat _ _ _))))))))) (by decide)) (knzA (kupA hq6 (kupA hq5 (kupA hq4 (kupA hrb (kupA hq3 (kupA hra (kupA hq2 (kat _ _ _)))))))))) (fun q7 hq7 => ?_)
  refine wp_dup d_Chn_init_70 rfl ?_
  refine wp_callU (r := 3) d_Chn_init_71 (link_IN (as := []) (rest := [.ref q7, .int (nI 3), .ref q1]) d_Chn_init_71 cal_Lst_init rfl wN_Chn_39 wM_Chn_39 rfl) cal_Lst_init (c_Lst_init) (Nat.le_of_ble_eq_true rfl) ⟨Nat.le_of_ble_eq_true rfl, Nat.le_of_ble_eq_true rfl⟩ ?_
  refine wn_ast d_Chn_init_74 (kupA hq7 (kupA hq6 (kupA hq5 (kupA hq4 (kupA hrb (kupA hq3 (kupA hra (kupA hq2 (kat _ _ _))))))))) rfl (by decide) (kat _ _ _) (by decide) rfl (by rw [show va_up (va_up (va_up N q1 5) ra 20) rb 200 q1 = 5 by simp [va_up, e1ra, e1rb]]; omega) (by rw [show va_up (va_up (va_up N q1 5) ra 20) rb 200 q1 = 5 by simp [va_up, e1ra, e1rb]]; omega) ?_
  refine wp_iinc (lv' := [(1, .int (nI (3 + 1))), (0, .ref c)]) d_Chn_init_75 0 rfl (nI_1 _) (by decide) rfl ?_
  refine wp_goto (tgt := 57) d_Chn_init_78 (by decide) ?_
  refine wp_iload_n d_Chn_init_57 rfl 0 rfl ?_
  refine wp_iconst (v := nI 5) d_Chn_init_58 (by decide) ?_
  refine wp_geN (tgt := 81) d_Chn_init_59 (by decide) (by omega) (by omega) (fun c => absurd c (by decide)) (fun _ => ?_)
  refine wp_aload_n d_Chn_init_62 rfl 1 rfl ?_
  refine wn_get_Chn d_Chn_init_63 (kup hq7 (kup hq6 (kup hq5 (kup hq4 (kup hrb (kup hq3 (kup hra (kup hq2 (kup hq1 (hc)))))))))) 0 (by decide) wF_Chn_11 rfl ?_
  refine wp_toVR (o := some q1) (z := .ref q1) (by rw [u2r_ne _ _ (by decide), u2r_ne _ _ (by decide), u2r_ne _ _ (by decide), u2r_ne _ _ (by decide), u2r_at, if_pos rfl]) rfl ?_
  refine wp_iload_n d_Chn_init_66 rfl 0 rfl ?_
  refine wn_new_Lst d_Chn_init_67 wC_Chn_9 (DF.pEr (DF.pK (DF.pEr (DF.pK (DF.pEr (DF.pK (DF.pEr (DF.pK (DF.pI (DF.pI (DF.pI (DF.pR (DF.pR (DF.pK (DF.pK (DF.pR (DF.pR (DF.pK (DF.pK (DF.pR (DF.pK (hD) (by decide)) (knz (kup hq1 (hc)))) (by decide)) (by decide)) (knz (kup hra (kat _ _ _)))) (knz (kup hra (kup hq2 (kup hq1 (hc)))))) (by decide)) (by decide)) (knz (kup hrb (kat _ _ _)))) (knz (kup hrb (kup hq3 (kup hra (kup hq2 (kup hq1 (hc)))))))) (knz (kup hrb (kup hq3 (kup hra (kup hq2 (kup hq1 (hc)))))))) (knz (kup hrb (kup hq3 (kup hra (kup hq2 (kup hq1 (hc)))))))) (knz (kup hrb (kup hq3 (kup hra (kup hq2 (kup hq1 (hc)))))))) (by decide)) (knzA (kupA hq4 (kupA hrb (kupA hq3 (kupA hra (kupA hq2 (kat _ _ _)))))))) (by decide)) (knzA (kupA hq5 (kupA hq4 (kupA hrb (kupA hq3 (kupA hra (kupA hq2 (kat _ _ _))))))))) (by decide)) (knzA (kupA hq6 (kupA hq5 (kupA hq4 (kupA hrb (kupA hq3 (kupA hra (kupA hq2 (kat _ _ _)))))))))) (by decide)) (knzA (kupA hq7 (kupA hq6 (kupA hq5 (kupA hq4 (kupA hrb (kupA hq3 (kupA hra (kupA hq2 (kat _ _ _))))))))))) (fun q8 hq8 => ?_)
  refine wp_dup d_Chn_init_70 rfl ?_
  refine wp_callU (r := 3) d_Chn_init_71 (link_IN (as := []) (rest := [.ref q8, .int (nI 4), .ref q1]) d_Chn_init_71 cal_Lst_init rfl wN_Chn_39 wM_Chn_39 rfl) cal_Lst_init (c_Lst_init) (Nat.le_of_ble_eq_true rfl) ⟨Nat.le_of_ble_eq_true rfl, Nat.le_of_ble_eq_true rfl⟩ ?_
  refine wn_ast d_Chn_init_74 (kupA hq8 (kupA hq7 (kupA hq6 (kupA hq5 (kupA hq4 (kupA hrb (kupA hq3 (kupA hra (kupA hq2 (kat _ _ _)))))))))) rfl (by decide) (kat _ _ _) (by decide) rfl (by rw [show va_up (va_up (va_up N q1 5) ra 20) rb 200 q1 = 5 by simp [va_up, e1ra, e1rb]]; omega) (by rw [show va_up (va_up (va_up N q1 5) ra 20) rb 200 q1 = 5 by simp [va_up, e1ra, e1rb]]; omega) ?_
  refine wp_iinc (lv' := [(1, .int (nI (4 + 1))), (0, .ref c)]) d_Chn_init_75 0 rfl (nI_1 _) (by decide) rfl ?_
  refine wp_goto (tgt := 57) d_Chn_init_78 (by decide) ?_
  refine wp_iload_n d_Chn_init_57 rfl 0 rfl ?_
  refine wp_iconst (v := nI 5) d_Chn_init_58 (by decide) ?_
  refine wp_geN (tgt := 81) d_Chn_init_59 (by decide) (by omega) (by omega) (fun _ => ?_) (fun c => absurd c (by decide))
  exact wp_vret d_Chn_init_81 rfl ⟨rfl, chn_fin ρ m hD hc hz hq1 hq2 hra hq3 hrb hq4 hq5 hq6 hq7 hq8⟩
end Cls33
