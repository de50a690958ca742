section Cls34
theorem Gw.newo {ρ K N : Nat → Nat} {I : Nat → Nat → Int32} {R : Nat → Nat → Option Nat} {L : Nat → Nat → Int64} {E : Nat → Nat → Int32} {El : Nat → Nat → Int64} {Er : Nat → Nat → Option Nat} (o : Nat) {q v : Nat} (t : Nat) (hD : DF K I R L E El Er) (hq : K q = 0) (hv : v ≠ 0) : Gw o ρ K N I R L E El Er (va_up ρ q t) (va_up K q v) N I R L E El Er :=
  ⟨fun p hp => ⟨by simp [va_up, dne2 hq hp], rfl, by simp [va_up, dne2 hq hp], rfl, rfl, rfl⟩, fun _ _ _ _ => ⟨rfl, rfl, rfl⟩, DF.pK hD hv⟩
theorem Gw.putI {ρ K N : Nat → Nat} {I : Nat → Nat → Int32} {R : Nat → Nat → Option Nat} {L : Nat → Nat → Int64} {E : Nat → Nat → Int32} {El : Nat → Nat → Int64} {Er : Nat → Nat → Option Nat} {o g : Nat} {x : Int32} (hD : DF K I R L E El Er) (ho : K o ≠ 0) : Gw o ρ K N I R L E El Er ρ K N (u2 I g o x) R L E El Er :=
  ⟨fun p hp => ⟨rfl, rfl, rfl, rfl, rfl, rfl⟩, fun p _ hn g => ⟨u2_q _ _ hn, rfl, rfl⟩, DF.pI hD ho⟩
theorem Gw.putR {ρ K N : Nat → Nat} {I : Nat → Nat → Int32} {R : Nat → Nat → Option Nat} {L : Nat → Nat → Int64} {E : Nat → Nat → Int32} {El : Nat → Nat → Int64} {Er : Nat → Nat → Option Nat} {o g : Nat} {x : Option Nat} (hD : DF K I R L E El Er) (ho : K o ≠ 0) : Gw o ρ K N I R L E El Er ρ K N I (u2r R g o x) L E El Er :=
  ⟨fun p hp => ⟨rfl, rfl, rfl, rfl, rfl, rfl⟩, fun p _ hn g => ⟨rfl, u2r_q _ _ hn, rfl⟩, DF.pR hD ho⟩
theorem Gw.z {ρ K N : Nat → Nat} {I : Nat → Nat → Int32} {R : Nat → Nat → Option Nat} {L : Nat → Nat → Int64} {E : Nat → Nat → Int32} {El : Nat → Nat → Int64} {Er : Nat → Nat → Option Nat} {ρ' K' N' : Nat → Nat} {I' : Nat → Nat → Int32} {R' : Nat → Nat → Option Nat} {L' : Nat → Nat → Int64} {E' : Nat → Nat → Int32} {El' : Nat → Nat → Int64} {Er' : Nat → Nat → Option Nat} {o q : Nat} (F : Gw o ρ K N I R L E El Er ρ' K' N' I' R' L' E' El' Er') (h : K' q = 0) : K q = 0 := by
  rcases Nat.eq_zero_or_pos (K q) with z | z
  · exact z
  · have := (F.1 q (by omega)).1
    omega
/-- a line as it is made; n: its number -/
def LnF (n l a b c0 c1 : Nat) (a0 a1 : Nat → Nat → Nat) (ρ K N : Nat → Nat) (I : Nat → Nat → Int32) (R Er : Nat → Nat → Option Nat) : Prop := K l = 8 + 1 ∧ I 38 l = nI a ∧ I 39 l = nI b ∧ R 40 l = some c0 ∧ R 41 l = some c1 ∧ I 42 l = bI true ∧ ρ c0 = 70000 + 2 * n ∧ ρ c1 = 70000 + (2 * n + 1) ∧ ChF (2 * n) c0 a0 ρ K N I R Er ∧ ChF (2 * n + 1) c1 a1 ρ K N I R Er
theorem lin_fin {ρ K N : Nat → Nat} {I : Nat → Nat → Int32} {R : Nat → Nat → Option Nat} {L : Nat → Nat → Int64} {E : Nat → Nat → Int32} {El : Nat → Nat → Int64} {Er : Nat → Nat → Option Nat} {ρA KA NA : Nat → Nat} {IA : Nat → Nat → Int32} {RA : Nat → Nat → Option Nat} {LA : Nat → Nat → Int64} {EA : Nat → Nat → Int32} {ElA : Nat → Nat → Int64} {ErA : Nat → Nat → Option Nat} {ρB KB NB : Nat → Nat} {IB : Nat → Nat → Int32} {RB : Nat → Nat → Option Nat} {LB : Nat → Nat → Int64} {EB : Nat → Nat → Int32} {ElB : Nat → Nat → Int64} {ErB : Nat → Nat → Option Nat} {l q1 q2 n a b : Nat} {aA aB : Nat → Nat → Nat} (hD : DF K I R L E El Er) (hl : K l = 8 + 1) (hq1 : K q1 = 0) (GA : Gw q1 (va_up ρ q1 (70000 + 2 * n)) (va_up K q1 (1 + 1)) N I R L E El Er ρA KA NA IA RA LA EA ElA ErA) (CA : ChF (2 * n) q1 aA ρA KA NA IA RA ErA) (hq2 : KA q2 = 0) (GB : Gw q2 (va_up ρA q2 (70000 + (2 * n + 1))) (va_up KA q2 (1 + 1)) NA IA (u2r RA 40 l (some q1)) LA EA ElA ErA ρB KB NB IB RB LB EB ElB ErB) (CB : ChF (2 * n + 1) q2 aB ρB KB NB IB RB ErB) : (fun h' => ∃ (ρ' K' N' : Nat → Nat) (I' : Nat → Nat → Int32) (R' : Nat → Nat → Option Nat) (L' : Nat → Nat → Int64) (E' : Nat → Nat → Int32) (El' : Nat → Nat → Int64) (Er' : Nat → Nat → Option Nat) (c0 c1 : Nat) (a0 a1 : Nat → Nat → Nat), h' = hN K' N' I' R' L' E' El' Er' ∧ Gw l ρ K N I R L E El Er ρ' K' N' I' R' L' E' El' Er' ∧ LnF n l a b c0 c1 a0 a1 ρ' K' N' I' R' Er') (hN KB NB (u2 (u2 (u2 IB 42 l (nI 1)) 38 l (nI a)) 39 l (nI b)) (u2r RB 41 l (some q2)) LB EB ElB ErB) := by
  have n1 : l ≠ q1 := dne2 hq1 (by omega)
  have kl1 : va_up K q1 (1 + 1) l = 8 + 1 := kup hq1 hl
  have klA : KA l = 8 + 1 := (GA.1 l (by omega)).1.trans kl1
  have n2 : l ≠ q2 := dne2 hq2 (by omega)
  have n12 : q1 ≠ q2 := dne2 hq2 (by have := CA.1; omega)
  have kl2 : va_up KA q2 (1 + 1) l = 8 + 1 := kup hq2 klA
  have klB : KB l = 8 + 1 := (GB.1 l (by omega)).1.trans kl2
  have G1 : Gw l ρ K N I R L E El Er (va_up ρ q1 (70000 + 2 * n)) (va_up K q1 (1 + 1)) N I R L E El Er := Gw.newo l _ hD hq1 (by decide)
  have G2 : Gw l ρ K N I R L E El Er ρA KA NA IA RA LA EA ElA ErA := G1.tr GA (Or.inr hq1)
  have G3 : Gw l ρA KA NA IA RA LA EA ElA ErA ρA KA NA IA (u2r RA 40 l (some q1)) LA EA ElA ErA := Gw.putR GA.2.2 (by omega)
  have G4 : Gw l ρA KA NA IA RA LA EA ElA ErA (va_up ρA q2 (70000 + (2 * n + 1))) (va_up KA q2 (1 + 1)) NA IA (u2r RA 40 l (some q1)) LA EA ElA ErA := G3.tr (Gw.newo l _ G3.2.2 hq2 (by decide)) (Or.inl rfl)
  have G5 : Gw l ρA KA NA IA RA LA EA ElA ErA ρB KB NB IB RB LB EB ElB ErB := G4.tr GB (Or.inr hq2)
  have P1 : Gw l ρB KB NB IB RB LB EB ElB ErB ρB KB NB IB (u2r RB 41 l (some q2)) LB EB ElB ErB := Gw.putR GB.2.2 (by omega)
  have P2 : Gw l ρB KB NB IB RB LB EB ElB ErB ρB KB NB (u2 IB 42 l (nI 1)) (u2r RB 41 l (some q2)) LB EB ElB ErB := P1.tr (Gw.putI P1.2.2 (by omega)) (Or.inl rfl)
  have P3 : Gw l ρB KB NB IB RB LB EB ElB ErB ρB KB NB (u2 (u2 IB 42 l (nI 1)) 38 l (nI a)) (u2r RB 41 l (some q2)) LB EB ElB ErB := P2.tr (Gw.putI P2.2.2 (by omega)) (Or.inl rfl)
  have P4 : Gw l ρB KB NB IB RB LB EB ElB ErB ρB KB NB (u2 (u2 (u2 IB 42 l (nI 1)) 38 l (nI a)) 39 l (nI b)) (u2r RB 41 l (some q2)) LB EB ElB ErB := P3.tr (Gw.putI P3.2.2 (by omega)) (Or.inl rfl)
  have C1 : ChF (2 * n) q1 aA ρB KB NB (u2 (u2 (u2 IB 42 l (nI 1)) 38 l (nI a)) 39 l (nI b)) (u2r RB 41 l (some q2)) ErB := CA.gw (G5.tr P4 (Or.inl rfl)) (by omega) n1.symm
  have C2 : ChF (2 * n + 1) q2 aB ρB KB NB (u2 (u2 (u2 IB 42 l (nI 1)) 38 l (nI a)) 39 l (nI b)) (u2r RB 41 l (some q2)) ErB := CB.gw P4 (by omega) n2.symm
  have r1 : ρB q1 = 70000 + 2 * n := by
    rw [(G5.1 q1 (by have := CA.1; omega)).2.2.1, (GA.1 q1 (by rw [kat]; decide)).2.2.1]
    exact if_pos rfl
  have r2 : ρB q2 = 70000 + (2 * n + 1) := by
    rw [(GB.1 q2 (by rw [kat]; decide)).2.2.1]
    exact if_pos rfl
  refine ⟨ρB, KB, NB, (u2 (u2 (u2 IB 42 l (nI 1)) 38 l (nI a)) 39 l (nI b)), (u2r RB 41 l (some q2)), LB, EB, ElB, ErB, q1, q2, aA, aB, rfl, (G2.tr G5 (Or.inl rfl)).tr P4 (Or.inl rfl), klB, by rw [u2_ne _ _ (by decide), u2_at, if_pos rfl], by rw [u2_at, if_pos rfl], ?_, by rw [u2r_at, if_pos rfl], by rw [u2_ne _ _ (by decide), u2_ne _ _ (by decide), u2_at, if_pos rfl]; rfl, r1, r2, C1, C2⟩
  rw [u2r_ne _ _ (by decide), (GB.2.1 l (by omega) n2 40).2.1, u2r_at, if_pos rfl]
set_option maxRecDepth 20000 in
theorem c_Lin_init {G : Gt} {K N : Nat → Nat} {I : Nat → Nat → Int32} {R : Nat → Nat → Option Nat} {L : Nat → Nat → Int64} {E : Nat → Nat → Int32} {El : Nat → Nat → Int64} {Er : Nat → Nat → Option Nat} (ρ : Nat → Nat) (n : Nat) {l a b : Nat} (hD : DF K I R L E El Er) (hl : K l = 8 + 1) : CallE G m_Lin_init 3 44 [.ref l, .int (nI a), .int (nI b)] (hN K N I R L E El Er) (0 + (0 + 1 + 1 + 1 + 1 + 1 + (0 + 1) + 1 + (0 + 1) + 1 + 1) + 1 + (0 + 1 + 1 + 1 + 1 + 1 + (0 + 1) + 1 + (0 + 1) + 1 + 1) + 1) (0 + (0 + 3 + 3 + 3 + 3 + 3 + (0 + 200) + 3 + (0 + 20) + 3 + 5) + 7 + (0 + 3 + 3 + 3 + 3 + 3 + (0 + 200) + 3 + (0 + 20) + 3 + 5) + 7) none (fun h' => ∃ (ρ' K' N' : Nat → Nat) (I' : Nat → Nat → Int32) (R' : Nat → Nat → Option Nat) (L' : Nat → Nat → Int64) (E' : Nat → Nat → Int32) (El' : Nat → Nat → Int64) (Er' : Nat → Nat → Option Nat) (c0 c1 : Nat) (a0 a1 : Nat → Nat → Nat), h' = hN K' N' I' R' L' E' El' Er' ∧ Gw l ρ K N I R L E El Er ρ' K' N' I' R' L' E' El' Er' ∧ LnF n l a b c0 c1 a0 a1 ρ' K' N' I' R' Er') := by
  refine CallS.of (Nat.le_of_ble_eq_true rfl) ?_
  refine wp_aload_n d_Lin_init_0 rfl 0 rfl ?_
  refine wp_objInit d_Lin_init_1 wM_Lin_1 ⟨Nat.le_of_ble_eq_true rfl, Nat.le_of_ble_eq_true rfl⟩ ?_
  refine wp_aload_n d_Lin_init_4 rfl 0 rfl ?_
  refine wn_new_Chn d_Lin_init_5 wC_Lin_7 (hD) (fun q1 hq1 => ?_)
  refine wp_dup d_Lin_init_8 rfl ?_
  refine wp_callEU (k' := (0 + 1 + 1 + 1 + 1 + 1 + (0 + 1) + 1 + (0 + 1) + 1 + 1)) (n' := (0 + 3 + 3 + 3 + 3 + 3 + (0 + 200) + 3 + (0 + 20) + 3 + 5)) (r := 2) d_Lin_init_9 (link_I (as := []) (rest := [.ref q1, .ref l]) d_Lin_init_9 cal_Chn_init rfl wM_Lin_9 rfl) cal_Chn_init (c_Chn_init (va_up ρ q1 (70000 + 2 * n)) (2 * n) (DF.pK (hD) (by decide)) (kat _ _ _) (hD q1 hq1).1) (Nat.le_of_ble_eq_true rfl) ⟨Nat.le_of_ble_eq_true rfl, Nat.le_of_ble_eq_true rfl⟩ (fun h' q9 => ?_)
  obtain ⟨ρA, KA, NA, IA, RA, LA, EA, ElA, ErA, aA, rfl, GA, CA⟩ := q9
  have klA : KA l = 8 + 1 := (GA.1 l (by rw [kup hq1 hl]; decide)).1.trans (kup hq1 hl)
  refine wn_putF_Lin (ty := t_Lin 2) (v := va_rf (some q1)) (I' := IA) (R' := u2r RA 40 l (some q1)) (L' := LA) d_Lin_init_12 (klA) 2 (by decide) wF_Lin_10 rfl rfl rfl (t_Lin_ok 2 (by decide)) rfl rfl sF_40 (oR _ _ _ 40 _) ?_
  refine wp_aload_n d_Lin_init_15 rfl 0 rfl ?_
  refine wn_new_Chn d_Lin_init_16 wC_Lin_7 (DF.pR (GA.2.2) (knz (klA))) (fun q2 hq2 => ?_)
  refine wp_dup d_Lin_init_19 rfl ?_
  refine wp_callEU (k' := (0 + 1 + 1 + 1 + 1 + 1 + (0 + 1) + 1 + (0 + 1) + 1 + 1)) (n' := (0 + 3 + 3 + 3 + 3 + 3 + (0 + 200) + 3 + (0 + 20) + 3 + 5)) (r := 2) d_Lin_init_20 (link_I (as := []) (rest := [.ref q2, .ref l]) d_Lin_init_20 cal_Chn_init rfl wM_Lin_9 rfl) cal_Chn_init (c_Chn_init (va_up ρA q2 (70000 + (2 * n + 1))) (2 * n + 1) (DF.pK (DF.pR (GA.2.2) (knz (klA))) (by decide)) (kat _ _ _) (GA.2.2 q2 hq2).1) (Nat.le_of_ble_eq_true rfl) ⟨Nat.le_of_ble_eq_true rfl, Nat.le_of_ble_eq_true rfl⟩ (fun h' q20 => ?_)
  obtain ⟨ρB, KB, NB, IB, RB, LB, EB, ElB, ErB, aB, rfl, GB, CB⟩ := q20
  have klB : KB l = 8 + 1 := (GB.1 l (by rw [kup hq2 klA]; decide)).1.trans (kup hq2 klA)
  refine wn_putF_Lin (ty := t_Lin 3) (v := va_rf (some q2)) (I' := IB) (R' := u2r RB 41 l (some q2)) (L' := LB) d_Lin_init_23 (klB) 3 (by decide) wF_Lin_16 rfl rfl rfl (t_Lin_ok 3 (by decide)) rfl rfl sF_41 (oR _ _ _ 41 _) ?_
  refine wp_aload_n d_Lin_init_26 rfl 0 rfl ?_
  refine wp_iconst (v := nI 1) d_Lin_init_27 (by decide) ?_
  refine wn_put_Lin (ty := t_Lin 4) (I' := u2 IB 42 l (nI 1)) (R' := u2r RB 41 l (some q2)) (L' := LB) d_Lin_init_28 (klB) 4 (by decide) wF_Lin_19 rfl (t_Lin_ok 4 (by decide)) rfl rfl sF_42 (oI _ _ _ 42 _) ?_
  refine wp_aload_n d_Lin_init_31 rfl 0 rfl ?_
  refine wp_iload_n d_Lin_init_32 rfl 1 rfl ?_
  refine wn_putF_Lin (ty := t_Lin 0) (I' := u2 (u2 IB 42 l (nI 1)) 38 l (nI a)) (R' := u2r RB 41 l (some q2)) (L' := LB) d_Lin_init_33 (klB) 0 (by decide) wF_Lin_23 rfl rfl rfl (t_Lin_ok 0 (by decide)) rfl rfl sF_38 (oI _ _ _ 38 _) ?_
  refine wp_aload_n d_Lin_init_36 rfl 0 rfl ?_
  refine wp_iload_n d_Lin_init_37 rfl 2 rfl ?_
  refine wn_putF_Lin (ty := t_Lin 1) (I' := u2 (u2 (u2 IB 42 l (nI 1)) 38 l (nI a)) 39 l (nI b)) (R' := u2r RB 41 l (some q2)) (L' := LB) d_Lin_init_38 (klB) 1 (by decide) wF_Lin_27 rfl rfl rfl (t_Lin_ok 1 (by decide)) rfl rfl sF_39 (oI _ _ _ 39 _) ?_
  exact wp_vret d_Lin_init_41 rfl ⟨rfl, lin_fin hD hl hq1 GA CA hq2 GB CB⟩
def gmL (Γ : Gm) (l q c0 c1 : Nat) (a0 a1 : Nat → Nat → Nat) : Gm := fun k i => if k = 6 then (if i = l then q else Γ 6 i) else if k = 7 then (if i = 2 * l then c0 else if i = 2 * l + 1 then c1 else Γ 7 i) else if k = 9 then (if i / 10 = l then (if i % 10 < 5 then a0 9 (i % 10) else a1 9 (i % 10 - 5)) else Γ 9 i) else if 8 ≤ k ∧ k ≤ 13 then (if i = 2 * l then a0 k 0 else if i = 2 * l + 1 then a1 k 0 else Γ k i) else Γ k i
theorem gmL_E {Γ : Gm} {l q c0 c1 : Nat} {a0 a1 : Nat → Nat → Nat} {s : Sa} (hn : sLn s l = none) : GmE Γ (gmL Γ l q c0 c1 a0 a1) s := by
  have hno : ∀ l2, (sLn s l2).isSome = true → l2 ≠ l := fun l2 h e => by rw [e, hn] at h; cases h
  refine ⟨fun k hk => ?_, fun x k e _ _ => rfl, fun l2 _ h => ?_, fun k c h7 h13 h9 _ h => ?_, fun c p _ hp h => ?_, fun k m h14 h16 _ => ?_⟩
  · funext i
    unfold gmL
    rw [if_neg (by omega), if_neg (by omega), if_neg (by omega), if_neg (by omega)]
  · unfold gmL
    rw [if_pos rfl, if_neg (hno l2 h)]
  · have := hno _ h
    unfold gmL
    rw [if_neg (by omega)]
    by_cases e7 : k = 7
    · rw [if_pos e7, if_neg (by omega), if_neg (by omega), e7]
    · rw [if_neg e7, if_neg h9, if_pos (by omega), if_neg (by omega), if_neg (by omega)]
  · have := hno _ h
    unfold gmL
    rw [if_neg (by decide), if_neg (by decide), if_pos rfl, if_neg (by omega)]
  · unfold gmL
    rw [if_neg (by omega), if_neg (by omega), if_neg (by omega), if_neg (by omega)]
theorem gmL_c {Γ : Gm} {l q c0 c1 : Nat} {a0 a1 : Nat → Nat → Nat} {ρ K N : Nat → Nat} {I : Nat → Nat → Int32} {R Er : Nat → Nat → Option Nat} {a b : Nat} (h : LnF l q a b c0 c1 a0 a1 ρ K N I R Er) {c : Nat} (hc : c / 2 = l) : ∃ cc aa, ChF c cc aa ρ K N I R Er ∧ ρ cc = 70000 + c ∧ gmL Γ l q c0 c1 a0 a1 7 c = cc ∧ (∀ k, 8 ≤ k → k ≤ 13 → k ≠ 9 → gmL Γ l q c0 c1 a0 a1 k c = aa k 0) ∧ ∀ p, p < 5 → gmL Γ l q c0 c1 a0 a1 9 (5 * c + p) = aa 9 p := by
  obtain ⟨-, -, -, -, -, -, r0, r1, h0, h1⟩ := h
  rcases (show c = 2 * l ∨ c = 2 * l + 1 by omega) with rfl | rfl
  · refine ⟨c0, a0, h0, r0, ?_, fun k h8 h13 h9 => ?_, fun p hp => ?_⟩
    · unfold gmL
      rw [if_neg (by decide), if_pos rfl, if_pos rfl]
    · unfold gmL
      rw [if_neg (by omega), if_neg (by omega), if_neg h9, if_pos (by omega), if_pos rfl]
    · unfold gmL
      rw [if_neg (by decide), if_neg (by decide), if_pos rfl, if_pos (by omega), if_pos (by omega), show (5 * (2 * l) + p) % 10 = p by omega]
  · refine ⟨c1, a1, h1, r1, ?_, fun k h8 h13 h9 => ?_, fun p hp => ?_⟩
    · unfold gmL
      rw [if_neg (by decide), if_pos rfl, if_neg (by omega), if_pos rfl]
    · unfold gmL
      rw [if_neg (by omega), if_neg (by omega), if_neg h9, if_pos (by omega), if_neg (by omega), if_pos rfl]
    · unfold gmL
      rw [if_neg (by decide), if_neg (by decide), if_pos rfl, if_pos (by omega), if_neg (by omega), show (5 * (2 * l + 1) + p) % 10 - 5 = p by omega]
theorem deg_new {s : Sa} {l a b : Nat} (hl : l < 8) (hn : sLn s l = none) (x : Nat) : degree (wLn s (va_up (sLn s) l (some (a, b, true)))) x = degree s x + (if a = x ∨ b = x then 1 else 0) := by
  rw [deg_sum, deg_sum]
  have e : (fun k => if atSw (wLn s (va_up (sLn s) l (some (a, b, true)))) k x then 1 else 0) = va_up (fun k => if atSw s k x then 1 else 0) l (if a = x ∨ b = x then 1 else 0) := by
    funext k
    by_cases hk : k = l
    · subst hk
      have : atSw (wLn s (va_up (sLn s) k (some (a, b, true)))) k x = (a == x || b == x) := by
        unfold atSw
        show (match va_up (sLn s) k (some (a, b, true)) k with | none => false | some (a, b, _) => a == x || b == x) = _
        simp [va_up]
      rw [this]
      simp [va_up]
    · have : atSw (wLn s (va_up (sLn s) l (some (a, b, true)))) k x = atSw s k x := by
        unfold atSw
        show (match va_up (sLn s) l (some (a, b, true)) k with | none => false | some (a, b, _) => a == x || b == x) = _
        simp [va_up, hk]
        rfl
      rw [this]
      simp [va_up, hk]
  rw [e]
  have h2 := sumN_up (n := 8) (v := if a = x ∨ b = x then 1 else 0) (f := fun k => if atSw s k x then 1 else 0) hl
  have h3 : atSw s l x = false := by unfold atSw; rw [hn]
  rw [h3] at h2
  simp at h2 ⊢
  omega
end Cls34
