section Cls37
/-- the net as far as it is made: the first i switches -/
def NtI (i o : Nat) (γ : Gm) (ρ K N : Nat → Nat) (I : Nat → Nat → Int32) (R : Nat → Nat → Option Nat) (L : Nat → Nat → Int64) (E : Nat → Nat → Int32) (El : Nat → Nat → Int64) (Er : Nat → Nat → Option Nat) : Prop := γ 0 0 = o ∧ DF K I R L E El Er ∧ RNt γ ρ K N I R sa0 ∧ RDr γ ρ K N R E sa0 ∧ (∀ l, Er (γ 0 5) l = none) ∧ ∀ x, x < i → Er (γ 0 4) x = some (γ 1 x) ∧ SwF x (γ 1 x) (γ 2 x) (γ 3 x) (γ 4 x) ρ K N I R Er
theorem SwF.fr {ρ K N : Nat → Nat} {I : Nat → Nat → Int32} {R : Nat → Nat → Option Nat} {L : Nat → Nat → Int64} {E : Nat → Nat → Int32} {El : Nat → Nat → Int64} {Er : Nat → Nat → Option Nat} {ρ' K' N' : Nat → Nat} {I' : Nat → Nat → Int32} {R' : Nat → Nat → Option Nat} {L' : Nat → Nat → Int64} {E' : Nat → Nat → Int32} {El' : Nat → Nat → Int64} {Er' : Nat → Nat → Option Nat} {x w e d hl : Nat} {XEr : List Nat} (h : SwF x w e d hl ρ K N I R Er) (F : Fr0 ρ ρ' K N K' N' I I' R R' L L' E E' El El' Er Er' [] [] [] [] XEr) (he : e ∉ XEr) : SwF x w e d hl ρ' K' N' I' R' Er' := by
  obtain ⟨a1, a2, a3, a4, a5, a6, a7, a8, a9, b1, b2, b3, b4, b5, b6, b7, b8, b9⟩ := h
  have kw : K w ≠ 0 := by omega
  exact ⟨F.k a1, F.p kw a2, F.r List.not_mem_nil kw a3, F.r List.not_mem_nil kw a4, F.r List.not_mem_nil kw a5, F.a a6, F.n (by omega) a7, F.p (by omega) a8, F.a a9, F.n (by omega) b1, F.p (by omega) b2, fun g h1 h2 => F.i List.not_mem_nil kw (b3 g h1 h2), F.k b4, F.p (by omega) b5, F.r List.not_mem_nil (by omega) b6, F.r List.not_mem_nil (by omega) b7, F.i List.not_mem_nil (by omega) b8, fun k => F.er he (by omega) (b9 k)⟩
theorem Gw.fr {ρ K N : Nat → Nat} {I : Nat → Nat → Int32} {R : Nat → Nat → Option Nat} {L : Nat → Nat → Int64} {E : Nat → Nat → Int32} {El : Nat → Nat → Int64} {Er : Nat → Nat → Option Nat} {ρ' K' N' : Nat → Nat} {I' : Nat → Nat → Int32} {R' : Nat → Nat → Option Nat} {L' : Nat → Nat → Int64} {E' : Nat → Nat → Int32} {El' : Nat → Nat → Int64} {Er' : Nat → Nat → Option Nat} {q : Nat} (F : Gw q ρ K N I R L E El Er ρ' K' N' I' R' L' E' El' Er') (hq : K q = 0) : Fr0 ρ ρ' K N K' N' I I' R R' L L' E E' El El' Er Er' [] [] [] [] [] :=
  ⟨fun p hp => ⟨(F.1 p hp).1, (F.1 p hp).2.1, (F.1 p hp).2.2.1⟩, fun g p _ hp => (F.2.1 p hp (dne2 hq hp) g).1, fun g p _ hp => (F.2.1 p hp (dne2 hq hp) g).2.1, fun g p hp => (F.2.1 p hp (dne2 hq hp) g).2.2, fun p _ hp => (F.1 p hp).2.2.2.1, fun p _ hp => (F.1 p hp).2.2.2.2.1, fun p _ hp => (F.1 p hp).2.2.2.2.2⟩
def gmS (γ : Gm) (i q e d hl : Nat) : Gm := fun k j => if k = 1 then va_up (γ 1) i q j else if k = 2 then va_up (γ 2) i e j else if k = 3 then va_up (γ 3) i d j else if k = 4 then va_up (γ 4) i hl j else γ k j
theorem net_s {ρ K N : Nat → Nat} {I : Nat → Nat → Int32} {R : Nat → Nat → Option Nat} {L : Nat → Nat → Int64} {E : Nat → Nat → Int32} {El : Nat → Nat → Int64} {Er : Nat → Nat → Option Nat} {ρA KA NA : Nat → Nat} {IA : Nat → Nat → Int32} {RA : Nat → Nat → Option Nat} {LA : Nat → Nat → Int64} {EA : Nat → Nat → Int32} {ElA : Nat → Nat → Int64} {ErA : Nat → Nat → Option Nat} {i o q e d hl : Nat} {γ : Gm} (h : NtI i o γ ρ K N I R L E El Er) (hq : K q = 0) (GA : Gw q (va_up ρ q (10000 + i)) (va_up K q (10 + 1)) N I R L E El Er ρA KA NA IA RA LA EA ElA ErA) (SA : SwF i q e d hl ρA KA NA IA RA ErA) : NtI (i + 1) o (gmS γ i q e d hl) ρA KA NA IA RA LA EA ElA (u2r ErA (γ 0 4) i (some q)) := by
  obtain ⟨h0, hD, hN, hR, hL, hS⟩ := h
  have G1 : Gw q ρ K N I R L E El Er ρA KA NA IA RA LA EA ElA ErA := (Gw.newo q (10000 + i) hD hq (by decide)).tr GA (Or.inl rfl)
  have F0 := G1.fr hq
  have k4 := hN.2.2.2.2.2.2.2.2.1
  have k5 := hN.2.2.2.2.2.2.2.2.2.2.1
  have F : Fr0 ρ ρA K N KA NA I IA R RA L LA E EA El ElA Er (u2r ErA (γ 0 4) i (some q)) [] [] [] [] [γ 0 4] := ⟨F0.1, F0.2.1, F0.2.2.1, F0.2.2.2.1, F0.2.2.2.2.1, F0.2.2.2.2.2.1, fun p hp hk => by rw [u2r_ne _ _ (fun z => hp (List.mem_singleton.mpr z))]; exact F0.2.2.2.2.2.2 p List.not_mem_nil hk⟩
  have g0 : gmS γ i q e d hl 0 = γ 0 := rfl
  have hN' := hN.fr F (by decide) (fun _ _ => List.not_mem_nil)
  have hR' := hR.fr F (by decide) List.not_mem_nil
  have mE : ∀ p t, K p = 20 + t → t ≠ 8 → p ∉ [γ 0 4] := fun p t hp ht hm => by rw [List.mem_singleton.mp hm] at hp; omega
  refine ⟨h0, DF.pEr G1.2.2 (by rw [F0.a k4]; decide), hN', hR', fun l => F.er (mE _ 9 k5 (by decide)) (knzA k5) (hL l), fun x hx => ?_⟩
  rw [g0]
  by_cases hxi : x = i
  · subst hxi
    have e1 : gmS γ x q e d hl 1 x = q := by simp [gmS, va_up]
    have e2 : gmS γ x q e d hl 2 x = e := by simp [gmS, va_up]
    have e3 : gmS γ x q e d hl 3 x = d := by simp [gmS, va_up]
    have e4 : gmS γ x q e d hl 4 x = hl := by simp [gmS, va_up]
    rw [e1, e2, e3, e4]
    refine ⟨by rw [u2r_at, if_pos rfl], ?_⟩
    have k4A : KA (γ 0 4) = 20 + 8 := F0.a k4
    obtain ⟨a1, a2, a3, a4, a5, a6, a7, a8, a9, b1, b2, b3, b4, b5, b6, b7, b8, b9⟩ := SA
    exact ⟨a1, a2, a3, a4, a5, a6, a7, a8, a9, b1, b2, b3, b4, b5, b6, b7, b8, fun k => by rw [u2r_ne _ _ (fun z => by rw [z] at a6; omega)]; exact b9 k⟩
  · obtain ⟨s1, s2⟩ := hS x (by omega)
    have e1 : gmS γ i q e d hl 1 x = γ 1 x := by simp [gmS, va_up, hxi]
    have e2 : gmS γ i q e d hl 2 x = γ 2 x := by simp [gmS, va_up, hxi]
    have e3 : gmS γ i q e d hl 3 x = γ 3 x := by simp [gmS, va_up, hxi]
    have e4 : gmS γ i q e d hl 4 x = γ 4 x := by simp [gmS, va_up, hxi]
    rw [e1, e2, e3, e4]
    exact ⟨by rw [u2r_at, if_neg hxi, F0.2.2.2.2.2.2 _ List.not_mem_nil (by omega)]; exact s1, s2.fr F (mE _ 6 s2.2.2.2.2.2.1 (by decide))⟩
theorem net_6 {ρ K N : Nat → Nat} {I : Nat → Nat → Int32} {R : Nat → Nat → Option Nat} {L : Nat → Nat → Int64} {E : Nat → Nat → Int32} {El : Nat → Nat → Int64} {Er : Nat → Nat → Option Nat} {o : Nat} {γ : Gm} (h : NtI 6 o γ ρ K N I R L E El Er) : NetOK o sa0 (hN K N I R L E El Er) := by
  obtain ⟨h0, hD, hN, hR, hL, hS⟩ := h
  refine ⟨γ, ρ, K, N, I, R, L, E, El, Er, rfl, ⟨hD, hN, hR, fun x hx => ?_, fun x hx k hk => ?_, fun x hx i m hm => (by cases hm), fun x hx => ?_, fun l hl => ⟨fun _ => hL l, fun a b v hv => (by cases hv)⟩, fun c hc hs => (by cases hs), fun c hc hs => (by cases hs), fun c hc hs => (by cases hs), fun i m hm => (by cases hm)⟩, h0⟩
  · obtain ⟨s1, a1, a2, a3, a4, a5, a6, a7, a8, a9, b1, b2, b3, b4, b5, b6, b7, b8, b9⟩ := hS x hx
    exact ⟨s1, a1, a2, a3, a4, a5, a6, a7, a8, a9, b1, b2, b3 51 (by decide) (by decide), b3 52 (by decide) (by decide), b3 53 (by decide) (by decide), b3 54 (by decide) (by decide), b3 55 (by decide) (by decide)⟩
  · obtain ⟨s1, a1, a2, a3, a4, a5, a6, a7, a8, a9, b1, b2, b3, b4, b5, b6, b7, b8, b9⟩ := hS x hx
    exact ⟨fun _ => b9 k, fun e he => (by cases he)⟩
  · obtain ⟨s1, a1, a2, a3, a4, a5, a6, a7, a8, a9, b1, b2, b3, b4, b5, b6, b7, b8, b9⟩ := hS x hx
    exact ⟨b5, [], ⟨b4, b6, b7, b8, List.nodup_nil, fun x hx => (by cases hx), fun i x hx => (by cases hx)⟩, rfl, fun x hx => (by cases hx)⟩
theorem net_0 (ρ : Nat → Nat) {K N : Nat → Nat} {I : Nat → Nat → Int32} {R : Nat → Nat → Option Nat} {L : Nat → Nat → Int64} {E : Nat → Nat → Int32} {El : Nat → Nat → Int64} {Er : Nat → Nat → Option Nat} {o v1 vb va v2 v3 v4 v5 : Nat} (hD : DF K I R L E El Er) (ho : K o = 0 + 1) (hz : ∀ g, I g o = 0) (hv1 : K v1 = 0) (hvb : (va_up K v1 (4 + 1)) vb = 0) (hva : (va_up (va_up K v1 (4 + 1)) vb (20 + 2)) va = 0) (hv2 : (va_up (va_up (va_up K v1 (4 + 1)) vb (20 + 2)) va (20 + 1)) v2 = 0) (hv3 : (va_up (va_up (va_up (va_up K v1 (4 + 1)) vb (20 + 2)) va (20 + 1)) v2 (20 + 8)) v3 = 0) (hv4 : (va_up (va_up (va_up (va_up (va_up K v1 (4 + 1)) vb (20 + 2)) va (20 + 1)) v2 (20 + 8)) v3 (20 + 9)) v4 = 0) (hv5 : (va_up (va_up (va_up (va_up (va_up (va_up K v1 (4 + 1)) vb (20 + 2)) va (20 + 1)) v2 (20 + 8)) v3 (20 + 9)) v4 (20 + 7)) v5 = 0) : ∃ γ, NtI 0 o γ (va_up (va_up (va_up (va_up (va_up (va_up (va_up ρ v1 (1)) vb (2)) va (3)) v2 (4)) v3 (5)) v4 (6)) v5 (7)) (va_up (va_up (va_up (va_up (va_up (va_up (va_up K v1 (4 + 1)) vb (20 + 2)) va (20 + 1)) v2 (20 + 8)) v3 (20 + 9)) v4 (20 + 7)) v5 (20 + 0)) (va_up (va_up (va_up (va_up (va_up (va_up N vb 1600) va 7) v2 6) v3 8) v4 200) v5 8) I (u2r (u2r (u2r (u2r (u2r (u2r (u2r R 21 v1 (some vb)) 22 v1 (some va)) 0 o (some v1)) 1 o (some v2)) 2 o (some v3)) 3 o (some v4)) 4 o (some v5)) L E El Er := by
  obtain ⟨n1_0, k1_0⟩ := kz_of (by decide) hvb
  obtain ⟨n2_1, k2_1⟩ := kz_of (by decide) hva
  obtain ⟨n2_0, k2_0⟩ := kz_of (by decide) k2_1
  obtain ⟨n3_2, k3_2⟩ := kz_of (by decide) hv2
  obtain ⟨n3_1, k3_1⟩ := kz_of (by decide) k3_2
  obtain ⟨n3_0, k3_0⟩ := kz_of (by decide) k3_1
  obtain ⟨n4_3, k4_3⟩ := kz_of (by decide) hv3
  obtain ⟨n4_2, k4_2⟩ := kz_of (by decide) k4_3
  obtain ⟨n4_1, k4_1⟩ := kz_of (by decide) k4_2
  obtain ⟨n4_0, k4_0⟩ := kz_of (by decide) k4_1
  obtain ⟨n5_4, k5_4⟩ := kz_of (by decide) hv4
  obtain ⟨n5_3, k5_3⟩ := kz_of (by decide) k5_4
  obtain ⟨n5_2, k5_2⟩ := kz_of (by decide) k5_3
  obtain ⟨n5_1, k5_1⟩ := kz_of (by decide) k5_2
  obtain ⟨n5_0, k5_0⟩ := kz_of (by decide) k5_1
  obtain ⟨n6_5, k6_5⟩ := kz_of (by decide) hv5
  obtain ⟨n6_4, k6_4⟩ := kz_of (by decide) k6_5
  obtain ⟨n6_3, k6_3⟩ := kz_of (by decide) k6_4
  obtain ⟨n6_2, k6_2⟩ := kz_of (by decide) k6_3
  obtain ⟨n6_1, k6_1⟩ := kz_of (by decide) k6_2
  obtain ⟨n6_0, k6_0⟩ := kz_of (by decide) k6_1
  have ko : K o ≠ 0 := by omega
  have c0 : o ≠ v1 := dne2 hv1 ko
  have c1 : o ≠ vb := dne2 k1_0 ko
  have c2 : o ≠ va := dne2 k2_0 ko
  have c3 : o ≠ v2 := dne2 k3_0 ko
  have c4 : o ≠ v3 := dne2 k4_0 ko
  have c5 : o ≠ v4 := dne2 k5_0 ko
  have c6 : o ≠ v5 := dne2 k6_0 ko
  have kk : (va_up (va_up (va_up (va_up (va_up (va_up (va_up K v1 (4 + 1)) vb (20 + 2)) va (20 + 1)) v2 (20 + 8)) v3 (20 + 9)) v4 (20 + 7)) v5 (20 + 0)) o = 0 + 1 := by simp [va_up, c0, c1, c2, c3, c4, c5, c6, ho]
  have k1 : (va_up (va_up (va_up (va_up (va_up (va_up (va_up K v1 (4 + 1)) vb (20 + 2)) va (20 + 1)) v2 (20 + 8)) v3 (20 + 9)) v4 (20 + 7)) v5 (20 + 0)) v1 = 4 + 1 := by simp [va_up, n1_0, n1_0.symm, n2_1, n2_1.symm, n2_0, n2_0.symm, n3_2, n3_2.symm, n3_1, n3_1.symm, n3_0, n3_0.symm, n4_3, n4_3.symm, n4_2, n4_2.symm, n4_1, n4_1.symm, n4_0, n4_0.symm, n5_4, n5_4.symm, n5_3, n5_3.symm, n5_2, n5_2.symm, n5_1, n5_1.symm, n5_0, n5_0.symm, n6_5, n6_5.symm, n6_4, n6_4.symm, n6_3, n6_3.symm, n6_2, n6_2.symm, n6_1, n6_1.symm, n6_0, n6_0.symm]
  have hD' : DF (va_up (va_up (va_up (va_up (va_up (va_up (va_up K v1 (4 + 1)) vb (20 + 2)) va (20 + 1)) v2 (20 + 8)) v3 (20 + 9)) v4 (20 + 7)) v5 (20 + 0)) I (u2r (u2r (u2r (u2r (u2r (u2r (u2r R 21 v1 (some vb)) 22 v1 (some va)) 0 o (some v1)) 1 o (some v2)) 2 o (some v3)) 3 o (some v4)) 4 o (some v5)) L E El Er := DF.pR (DF.pR (DF.pR (DF.pR (DF.pR (DF.pR (DF.pR (DF.pK (DF.pK (DF.pK (DF.pK (DF.pK (DF.pK (DF.pK hD (by decide)) (by decide)) (by decide)) (by decide)) (by decide)) (by decide)) (by decide)) (by omega)) (by omega)) (by omega)) (by omega)) (by omega)) (by omega)) (by omega)
  refine ⟨(fun k j => if j = 0 then o else if j = 1 then v1 else if j = 2 then vb else if j = 3 then va else if j = 4 then v2 else if j = 5 then v3 else if j = 6 then v4 else v5), rfl, hD', ⟨kk, ?_, ?_, ?_, ?_, ?_, hz 5, hz 6, by simp [va_up, n1_0, n1_0.symm, n2_1, n2_1.symm, n2_0, n2_0.symm, n3_2, n3_2.symm, n3_1, n3_1.symm, n3_0, n3_0.symm, n4_3, n4_3.symm, n4_2, n4_2.symm, n4_1, n4_1.symm, n4_0, n4_0.symm, n5_4, n5_4.symm, n5_3, n5_3.symm, n5_2, n5_2.symm, n5_1, n5_1.symm, n5_0, n5_0.symm, n6_5, n6_5.symm, n6_4, n6_4.symm, n6_3, n6_3.symm, n6_2, n6_2.symm, n6_1, n6_1.symm, n6_0, n6_0.symm], by simp [va_up, n1_0, n1_0.symm, n2_1, n2_1.symm, n2_0, n2_0.symm, n3_2, n3_2.symm, n3_1, n3_1.symm, n3_0, n3_0.symm, n4_3, n4_3.symm, n4_2, n4_2.symm, n4_1, n4_1.symm, n4_0, n4_0.symm, n5_4, n5_4.symm, n5_3, n5_3.symm, n5_2, n5_2.symm, n5_1, n5_1.symm, n5_0, n5_0.symm, n6_5, n6_5.symm, n6_4, n6_4.symm, n6_3, n6_3.symm, n6_2, n6_2.symm, n6_1, n6_1.symm, n6_0, n6_0.symm], by simp [va_up, n1_0, n1_0.symm, n2_1, n2_1.symm, n2_0, n2_0.symm, n3_2, n3_2.symm, n3_1, n3_1.symm, n3_0, n3_0.symm, n4_3, n4_3.symm, n4_2, n4_2.symm, n4_1, n4_1.symm, n4_0, n4_0.symm, n5_4, n5_4.symm, n5_3, n5_3.symm, n5_2, n5_2.symm, n5_1, n5_1.symm, n5_0, n5_0.symm, n6_5, n6_5.symm, n6_4, n6_4.symm, n6_3, n6_3.symm, n6_2, n6_2.symm, n6_1, n6_1.symm, n6_0, n6_0.symm], by simp [va_up, n1_0, n1_0.symm, n2_1, n2_1.symm, n2_0, n2_0.symm, n3_2, n3_2.symm, n3_1, n3_1.symm, n3_0, n3_0.symm, n4_3, n4_3.symm, n4_2, n4_2.symm, n4_1, n4_1.symm, n4_0, n4_0.symm, n5_4, n5_4.symm, n5_3, n5_3.symm, n5_2, n5_2.symm, n5_1, n5_1.symm, n5_0, n5_0.symm, n6_5, n6_5.symm, n6_4, n6_4.symm, n6_3, n6_3.symm, n6_2, n6_2.symm, n6_1, n6_1.symm, n6_0, n6_0.symm], by simp [va_up, n1_0, n1_0.symm, n2_1, n2_1.symm, n2_0, n2_0.symm, n3_2, n3_2.symm, n3_1, n3_1.symm, n3_0, n3_0.symm, n4_3, n4_3.symm, n4_2, n4_2.symm, n4_1, n4_1.symm, n4_0, n4_0.symm, n5_4, n5_4.symm, n5_3, n5_3.symm, n5_2, n5_2.symm, n5_1, n5_1.symm, n5_0, n5_0.symm, n6_5, n6_5.symm, n6_4, n6_4.symm, n6_3, n6_3.symm, n6_2, n6_2.symm, n6_1, n6_1.symm, n6_0, n6_0.symm], by simp [va_up, n1_0, n1_0.symm, n2_1, n2_1.symm, n2_0, n2_0.symm, n3_2, n3_2.symm, n3_1, n3_1.symm, n3_0, n3_0.symm, n4_3, n4_3.symm, n4_2, n4_2.symm, n4_1, n4_1.symm, n4_0, n4_0.symm, n5_4, n5_4.symm, n5_3, n5_3.symm, n5_2, n5_2.symm, n5_1, n5_1.symm, n5_0, n5_0.symm, n6_5, n6_5.symm, n6_4, n6_4.symm, n6_3, n6_3.symm, n6_2, n6_2.symm, n6_1, n6_1.symm, n6_0, n6_0.symm], by simp [va_up, n1_0, n1_0.symm, n2_1, n2_1.symm, n2_0, n2_0.symm, n3_2, n3_2.symm, n3_1, n3_1.symm, n3_0, n3_0.symm, n4_3, n4_3.symm, n4_2, n4_2.symm, n4_1, n4_1.symm, n4_0, n4_0.symm, n5_4, n5_4.symm, n5_3, n5_3.symm, n5_2, n5_2.symm, n5_1, n5_1.symm, n5_0, n5_0.symm, n6_5, n6_5.symm, n6_4, n6_4.symm, n6_3, n6_3.symm, n6_2, n6_2.symm, n6_1, n6_1.symm, n6_0, n6_0.symm], by simp [va_up, n1_0, n1_0.symm, n2_1, n2_1.symm, n2_0, n2_0.symm, n3_2, n3_2.symm, n3_1, n3_1.symm, n3_0, n3_0.symm, n4_3, n4_3.symm, n4_2, n4_2.symm, n4_1, n4_1.symm, n4_0, n4_0.symm, n5_4, n5_4.symm, n5_3, n5_3.symm, n5_2, n5_2.symm, n5_1, n5_1.symm, n5_0, n5_0.symm, n6_5, n6_5.symm, n6_4, n6_4.symm, n6_3, n6_3.symm, n6_2, n6_2.symm, n6_1, n6_1.symm, n6_0, n6_0.symm], by simp [va_up, n1_0, n1_0.symm, n2_1, n2_1.symm, n2_0, n2_0.symm, n3_2, n3_2.symm, n3_1, n3_1.symm, n3_0, n3_0.symm, n4_3, n4_3.symm, n4_2, n4_2.symm, n4_1, n4_1.symm, n4_0, n4_0.symm, n5_4, n5_4.symm, n5_3, n5_3.symm, n5_2, n5_2.symm, n5_1, n5_1.symm, n5_0, n5_0.symm, n6_5, n6_5.symm, n6_4, n6_4.symm, n6_3, n6_3.symm, n6_2, n6_2.symm, n6_1, n6_1.symm, n6_0, n6_0.symm]⟩, ⟨k1, by simp [va_up, n1_0, n1_0.symm, n2_1, n2_1.symm, n2_0, n2_0.symm, n3_2, n3_2.symm, n3_1, n3_1.symm, n3_0, n3_0.symm, n4_3, n4_3.symm, n4_2, n4_2.symm, n4_1, n4_1.symm, n4_0, n4_0.symm, n5_4, n5_4.symm, n5_3, n5_3.symm, n5_2, n5_2.symm, n5_1, n5_1.symm, n5_0, n5_0.symm, n6_5, n6_5.symm, n6_4, n6_4.symm, n6_3, n6_3.symm, n6_2, n6_2.symm, n6_1, n6_1.symm, n6_0, n6_0.symm], by simp [va_up, n1_0, n1_0.symm, n2_1, n2_1.symm, n2_0, n2_0.symm, n3_2, n3_2.symm, n3_1, n3_1.symm, n3_0, n3_0.symm, n4_3, n4_3.symm, n4_2, n4_2.symm, n4_1, n4_1.symm, n4_0, n4_0.symm, n5_4, n5_4.symm, n5_3, n5_3.symm, n5_2, n5_2.symm, n5_1, n5_1.symm, n5_0, n5_0.symm, n6_5, n6_5.symm, n6_4, n6_4.symm, n6_3, n6_3.symm, n6_2, n6_2.symm, n6_1, n6_1.symm, n6_0, n6_0.symm], ?_, ?_, by simp [va_up, n1_0, n1_0.symm, n2_1, n2_1.symm, n2_0, n2_0.symm, n3_2, n3_2.symm, n3_1, n3_1.symm, n3_0, n3_0.symm, n4_3, n4_3.symm, n4_2, n4_2.symm, n4_1, n4_1.symm, n4_0, n4_0.symm, n5_4, n5_4.symm, n5_3, n5_3.symm, n5_2, n5_2.symm, n5_1, n5_1.symm, n5_0, n5_0.symm, n6_5, n6_5.symm, n6_4, n6_4.symm, n6_3, n6_3.symm, n6_2, n6_2.symm, n6_1, n6_1.symm, n6_0, n6_0.symm], by simp [va_up, n1_0, n1_0.symm, n2_1, n2_1.symm, n2_0, n2_0.symm, n3_2, n3_2.symm, n3_1, n3_1.symm, n3_0, n3_0.symm, n4_3, n4_3.symm, n4_2, n4_2.symm, n4_1, n4_1.symm, n4_0, n4_0.symm, n5_4, n5_4.symm, n5_3, n5_3.symm, n5_2, n5_2.symm, n5_1, n5_1.symm, n5_0, n5_0.symm, n6_5, n6_5.symm, n6_4, n6_4.symm, n6_3, n6_3.symm, n6_2, n6_2.symm, n6_1, n6_1.symm, n6_0, n6_0.symm], by simp [va_up, n1_0, n1_0.symm, n2_1, n2_1.symm, n2_0, n2_0.symm, n3_2, n3_2.symm, n3_1, n3_1.symm, n3_0, n3_0.symm, n4_3, n4_3.symm, n4_2, n4_2.symm, n4_1, n4_1.symm, n4_0, n4_0.symm, n5_4, n5_4.symm, n5_3, n5_3.symm, n5_2, n5_2.symm, n5_1, n5_1.symm, n5_0, n5_0.symm, n6_5, n6_5.symm, n6_4, n6_4.symm, n6_3, n6_3.symm, n6_2, n6_2.symm, n6_1, n6_1.symm, n6_0, n6_0.symm], by simp [va_up, n1_0, n1_0.symm, n2_1, n2_1.symm, n2_0, n2_0.symm, n3_2, n3_2.symm, n3_1, n3_1.symm, n3_0, n3_0.symm, n4_3, n4_3.symm, n4_2, n4_2.symm, n4_1, n4_1.symm, n4_0, n4_0.symm, n5_4, n5_4.symm, n5_3, n5_3.symm, n5_2, n5_2.symm, n5_1, n5_1.symm, n5_0, n5_0.symm, n6_5, n6_5.symm, n6_4, n6_4.symm, n6_3, n6_3.symm, n6_2, n6_2.symm, n6_1, n6_1.symm, n6_0, n6_0.symm], fun p hp => ?_⟩, (hD v3 k4_0).2.2.2.2.2, fun x hx => (by omega)⟩
  · show (u2r (u2r (u2r (u2r (u2r (u2r (u2r R 21 v1 (some vb)) 22 v1 (some va)) 0 o (some v1)) 1 o (some v2)) 2 o (some v3)) 3 o (some v4)) 4 o (some v5)) 0 o = some v1
    rw [u2r_ne _ _ (by decide), u2r_ne _ _ (by decide), u2r_ne _ _ (by decide), u2r_ne _ _ (by decide), u2r_at, if_pos rfl]
  · show (u2r (u2r (u2r (u2r (u2r (u2r (u2r R 21 v1 (some vb)) 22 v1 (some va)) 0 o (some v1)) 1 o (some v2)) 2 o (some v3)) 3 o (some v4)) 4 o (some v5)) 1 o = some v2
    rw [u2r_ne _ _ (by decide), u2r_ne _ _ (by decide), u2r_ne _ _ (by decide), u2r_at, if_pos rfl]
  · show (u2r (u2r (u2r (u2r (u2r (u2r (u2r R 21 v1 (some vb)) 22 v1 (some va)) 0 o (some v1)) 1 o (some v2)) 2 o (some v3)) 3 o (some v4)) 4 o (some v5)) 2 o = some v3
    rw [u2r_ne _ _ (by decide), u2r_ne _ _ (by decide), u2r_at, if_pos rfl]
  · show (u2r (u2r (u2r (u2r (u2r (u2r (u2r R 21 v1 (some vb)) 22 v1 (some va)) 0 o (some v1)) 1 o (some v2)) 2 o (some v3)) 3 o (some v4)) 4 o (some v5)) 3 o = some v4
    rw [u2r_ne _ _ (by decide), u2r_at, if_pos rfl]
  · show (u2r (u2r (u2r (u2r (u2r (u2r (u2r R 21 v1 (some vb)) 22 v1 (some va)) 0 o (some v1)) 1 o (some v2)) 2 o (some v3)) 3 o (some v4)) 4 o (some v5)) 4 o = some v5
    rw [u2r_at, if_pos rfl]
  · show (u2r (u2r (u2r (u2r (u2r (u2r (u2r R 21 v1 (some vb)) 22 v1 (some va)) 0 o (some v1)) 1 o (some v2)) 2 o (some v3)) 3 o (some v4)) 4 o (some v5)) 21 v1 = some vb
    rw [u2r_ne _ _ (by decide), u2r_ne _ _ (by decide), u2r_ne _ _ (by decide), u2r_ne _ _ (by decide), u2r_ne _ _ (by decide), u2r_ne _ _ (by decide), u2r_at, if_pos rfl]
  · show (u2r (u2r (u2r (u2r (u2r (u2r (u2r R 21 v1 (some vb)) 22 v1 (some va)) 0 o (some v1)) 1 o (some v2)) 2 o (some v3)) 3 o (some v4)) 4 o (some v5)) 22 v1 = some va
    rw [u2r_ne _ _ (by decide), u2r_ne _ _ (by decide), u2r_ne _ _ (by decide), u2r_ne _ _ (by decide), u2r_ne _ _ (by decide), u2r_at, if_pos rfl]
  · show E vb p = b8 (txtR [] p)
    rw [(hD vb k1_0).2.2.2.1]
    rfl
set_option maxRecDepth 20000 in
theorem c_Net_init {G : Gt} {K N : Nat → Nat} {I : Nat → Nat → Int32} {R : Nat → Nat → Option Nat} {L : Nat → Nat → Int64} {E : Nat → Nat → Int32} {El : Nat → Nat → Int64} {Er : Nat → Nat → Option Nat} (ρ : Nat → Nat) {o : Nat} (hD : DF K I R L E El Er) (ho : K o = 0 + 1) (hz : ∀ g, I g o = 0) : CallE G m_Net_init 3 41 [.ref o] (hN K N I R L E El Er) (0 + 24 + 1 + 1 + 1 + 1 + (0 + 1 + 1) + 1) (0 + 1362 + 8 + 200 + 8 + 6 + (0 + 7 + 1600) + 7) none (NetOK o sa0) := by
  refine CallS.of (Nat.le_of_ble_eq_true rfl) ?_
  have L2 : ∀ (f i : Nat) (γ : Gm) (ρ' K' N' : Nat → Nat) (I' : Nat → Nat → Int32) (R' : Nat → Nat → Option Nat) (L' : Nat → Nat → Int64) (E' : Nat → Nat → Int32) (El' : Nat → Nat → Int64) (Er' : Nat → Nat → Option Nat), f = 6 - i → i ≤ 6 → NtI i o γ ρ' K' N' I' R' L' E' El' Er' → WP G m_Net_init (3, 41, (0 + 24 + 1 + 1 + 1 + 1 + (0 + 1 + 1) + 1), (0 + 1362 + 8 + 200 + 8 + 6 + (0 + 7 + 1600) + 7), (hN K N I R L E El Er), fun r9 h9 => r9 = .inl none ∧ (NetOK o sa0) h9) 53 [(1, .int (nI i)), (0, .ref o)] [] (hN K' N' I' R' L' E' El' Er') (4 * f) (227 * f) := by
    intro f
    induction f with
    | zero =>
      intro i γ ρ' K' N' I' R' L' E' El' Er' hf hi hI
      obtain rfl : i = 6 := by omega
      refine wp_iload_n d_Net_init_53 rfl 0 rfl ?_
      refine wp_bipush (v := nI 6) d_Net_init_54 (by decide) ?_
      refine wp_geN (tgt := 78) d_Net_init_56 (by decide) (by omega) (by omega) (fun _ => ?_) (fun c => absurd c (by omega))
      exact wp_vret d_Net_init_78 rfl ⟨rfl, net_6 hI⟩
    | succ f ih =>
      intro i γ ρ' K' N' I' R' L' E' El' Er' hf hi hI
      refine wp_iload_n d_Net_init_53 rfl 0 rfl ?_
      refine wp_bipush (v := nI 6) d_Net_init_54 (by decide) ?_
      refine wp_geN (tgt := 78) d_Net_init_56 (by decide) (by omega) (by omega) (fun c56 => ?_) (fun c56 => ?_)
      · exfalso; omega
      · refine wp_bud (k' := 4 * f + (0 + 1 + 1 + 1) + 1) (n' := 227 * f + (0 + 3 + 200 + 16) + 8) (by omega) (by omega) ?_
        refine wp_aload_n d_Net_init_59 rfl 1 rfl ?_
        refine wn_get_Net d_Net_init_60 (by rw [← hI.1]; exact hI.2.2.1.1) 1 (by decide) wF_Net_18 rfl ?_
        refine wp_toVR (o := some (γ 0 4)) (z := .ref (γ 0 4)) (by rw [← hI.1]; exact hI.2.2.1.2.2.1) rfl ?_
        refine wp_iload_n d_Net_init_63 rfl 0 rfl ?_
        refine wn_new_Swt d_Net_init_64 wC_Net_16 (hI.2.1) (fun q1 hq1 => ?_)
        refine wp_dup d_Net_init_67 rfl ?_
        refine wp_callEU (k' := (0 + 1 + 1 + 1)) (n' := (0 + 3 + 200 + 16)) (r := 3) d_Net_init_68 (link_IN (as := []) (rest := [.ref q1, .int (nI i), .ref (γ 0 4)]) d_Net_init_68 cal_Swt_init rfl wN_Net_38 wM_Net_38 rfl) cal_Swt_init (c_Swt_init (ρ := va_up ρ' q1 (10000 + i)) (x := i) (DF.pK (hI.2.1) (by decide)) (kat _ _ _) (if_pos rfl) (hI.2.1 q1 hq1).1) (Nat.le_of_ble_eq_true rfl) ⟨Nat.le_of_ble_eq_true rfl, Nat.le_of_ble_eq_true rfl⟩ (fun h' q68x => ?_)
        obtain ⟨ρA, KA, NA, IA, RA, LA, EA, ElA, ErA, e, d, hl, rfl, GA, SA⟩ := q68x
        have G1 := (Gw.newo (ρ := ρ') (N := N') q1 (10000 + i) hI.2.1 hq1 (show 10 + 1 ≠ 0 by decide)).tr GA (Or.inl rfl)
        have F0 := G1.fr hq1
        have k4A : KA (γ 0 4) = 20 + 8 := F0.a hI.2.2.1.2.2.2.2.2.2.2.2.1
        have n4A : NA (γ 0 4) = 6 := F0.n (knzA hI.2.2.1.2.2.2.2.2.2.2.2.1) hI.2.2.1.2.2.2.2.2.2.2.2.2.1
        refine wn_ast d_Net_init_71 (k4A) rfl (by decide) (SA.1) (by decide) rfl (by rw [n4A]; omega) (by rw [n4A]; omega) ?_
        refine wp_iinc (lv' := [(1, .int (nI (i + 1))), (0, .ref o)]) d_Net_init_72 0 rfl (nI_1 _) (by decide) rfl ?_
        refine wp_goto (tgt := 53) d_Net_init_75 (by decide) ?_
        exact ih (i + 1) _ _ _ _ _ _ _ _ _ _ (by omega) (by omega) (net_s hI hq1 GA SA)
  refine wp_aload_n d_Net_init_0 rfl 0 rfl ?_
  refine wp_objInit d_Net_init_1 wM_Net_1 ⟨Nat.le_of_ble_eq_true rfl, Nat.le_of_ble_eq_true rfl⟩ ?_
  refine wp_aload_n d_Net_init_4 rfl 0 rfl ?_
  refine wn_new_Drf d_Net_init_5 wC_Net_7 (hD) (fun q2 hq2 => ?_)
  refine wp_dup d_Net_init_8 rfl ?_
  refine wp_callEU (k' := (0 + 1 + 1)) (n' := (0 + 7 + 1600)) (r := 2) d_Net_init_9 (link_IN (as := []) (rest := [.ref q2, .ref o]) d_Net_init_9 cal_Drf_init rfl wN_Net_9 wM_Net_9 rfl) cal_Drf_init (c_Drf_init (DF.pK (hD) (by decide)) (kat _ _ _)) (Nat.le_of_ble_eq_true rfl) ⟨Nat.le_of_ble_eq_true rfl, Nat.le_of_ble_eq_true rfl⟩ (fun h' q9x => ?_)
  obtain ⟨vb, va, hvb, hva0, nba, rfl⟩ := q9x
  have hva : va_up (va_up K q2 (4 + 1)) vb (20 + 2) va = 0 := by rw [show va_up (va_up K q2 (4 + 1)) vb (20 + 2) va = (va_up K q2 (4 + 1)) va from if_neg nba]; exact hva0
  refine wn_putF_Net (ty := t_Net 0) (v := va_rf (some q2)) (I' := I) (R' := u2r (u2r (u2r R 21 q2 (some vb)) 22 q2 (some va)) 0 o (some q2)) (L' := L) d_Net_init_12 (kup hva (kup hvb (kup hq2 (ho)))) 0 (by decide) wF_Net_10 rfl rfl rfl (t_Net_ok 0 (by decide)) rfl rfl sF_0 (oR _ _ _ 0 _) ?_
  refine wp_aload_n d_Net_init_15 rfl 0 rfl ?_
  refine wp_bipush (v := nI 6) d_Net_init_16 (by decide) ?_
  refine wn_newq (t := 8) (len := 6) d_Net_init_18 rfl (by decide) wA_Net_16 wO_8 (by omega) (DF.pR (DF.pR (DF.pR (DF.pK (DF.pK (DF.pK (hD) (by decide)) (by decide)) (by decide)) (knz (kup hva (kup hvb (kat _ _ _))))) (knz (kup hva (kup hvb (kat _ _ _))))) (knz (kup hva (kup hvb (kup hq2 (ho)))))) (fun q3 hq3 => ?_)
  refine wn_putF_Net (ty := t_Net 1) (v := va_rf (some q3)) (I' := I) (R' := u2r (u2r (u2r (u2r R 21 q2 (some vb)) 22 q2 (some va)) 0 o (some q2)) 1 o (some q3)) (L' := L) d_Net_init_21 (kup hq3 (kup hva (kup hvb (kup hq2 (ho))))) 1 (by decide) wF_Net_18 rfl rfl rfl (t_Net_ok 1 (by decide)) rfl rfl sF_1 (oR _ _ _ 1 _) ?_
  refine wp_aload_n d_Net_init_24 rfl 0 rfl ?_
  refine wp_bipush (v := nI 8) d_Net_init_25 (by decide) ?_
  refine wn_newq (t := 9) (len := 8) d_Net_init_27 rfl (by decide) wA_Net_22 wO_9 (by omega) (DF.pR (DF.pK (DF.pR (DF.pR (DF.pR (DF.pK (DF.pK (DF.pK (hD) (by decide)) (by decide)) (by decide)) (knz (kup hva (kup hvb (kat _ _ _))))) (knz (kup hva (kup hvb (kat _ _ _))))) (knz (kup hva (kup hvb (kup hq2 (ho)))))) (by decide)) (knz (kup hq3 (kup hva (kup hvb (kup hq2 (ho))))))) (fun q4 hq4 => ?_)
  refine wn_putF_Net (ty := t_Net 2) (v := va_rf (some q4)) (I' := I) (R' := u2r (u2r (u2r (u2r (u2r R 21 q2 (some vb)) 22 q2 (some va)) 0 o (some q2)) 1 o (some q3)) 2 o (some q4)) (L' := L) d_Net_init_30 (kup hq4 (kup hq3 (kup hva (kup hvb (kup hq2 (ho)))))) 2 (by decide) wF_Net_24 rfl rfl rfl (t_Net_ok 2 (by decide)) rfl rfl sF_2 (oR _ _ _ 2 _) ?_
  refine wp_aload_n d_Net_init_33 rfl 0 rfl ?_
  refine wp_sipush (v := nI 200) d_Net_init_34 (by decide) ?_
  refine wn_newq (t := 7) (len := 200) d_Net_init_37 rfl (by decide) wA_Net_28 wO_7 (by omega) (DF.pR (DF.pK (DF.pR (DF.pK (DF.pR (DF.pR (DF.pR (DF.pK (DF.pK (DF.pK (hD) (by decide)) (by decide)) (by decide)) (knz (kup hva (kup hvb (kat _ _ _))))) (knz (kup hva (kup hvb (kat _ _ _))))) (knz (kup hva (kup hvb (kup hq2 (ho)))))) (by decide)) (knz (kup hq3 (kup hva (kup hvb (kup hq2 (ho))))))) (by decide)) (knz (kup hq4 (kup hq3 (kup hva (kup hvb (kup hq2 (ho)))))))) (fun q5 hq5 => ?_)
  refine wn_putF_Net (ty := t_Net 3) (v := va_rf (some q5)) (I' := I) (R' := u2r (u2r (u2r (u2r (u2r (u2r R 21 q2 (some vb)) 22 q2 (some va)) 0 o (some q2)) 1 o (some q3)) 2 o (some q4)) 3 o (some q5)) (L' := L) d_Net_init_40 (kup hq5 (kup hq4 (kup hq3 (kup hva (kup hvb (kup hq2 (ho))))))) 3 (by decide) wF_Net_30 rfl rfl rfl (t_Net_ok 3 (by decide)) rfl rfl sF_3 (oR _ _ _ 3 _) ?_
  refine wp_aload_n d_Net_init_43 rfl 0 rfl ?_
  refine wp_bipush (v := nI 8) d_Net_init_44 (by decide) ?_
  refine wn_newi (len := 8) d_Net_init_46 (by omega) (DF.pR (DF.pK (DF.pR (DF.pK (DF.pR (DF.pK (DF.pR (DF.pR (DF.pR (DF.pK (DF.pK (DF.pK (hD) (by decide)) (by decide)) (by decide)) (knz (kup hva (kup hvb (kat _ _ _))))) (knz (kup hva (kup hvb (kat _ _ _))))) (knz (kup hva (kup hvb (kup hq2 (ho)))))) (by decide)) (knz (kup hq3 (kup hva (kup hvb (kup hq2 (ho))))))) (by decide)) (knz (kup hq4 (kup hq3 (kup hva (kup hvb (kup hq2 (ho)))))))) (by decide)) (knz (kup hq5 (kup hq4 (kup hq3 (kup hva (kup hvb (kup hq2 (ho))))))))) (fun q6 hq6 => ?_)
  refine wn_putF_Net (ty := t_Net 4) (v := va_rf (some q6)) (I' := I) (R' := u2r (u2r (u2r (u2r (u2r (u2r (u2r R 21 q2 (some vb)) 22 q2 (some va)) 0 o (some q2)) 1 o (some q3)) 2 o (some q4)) 3 o (some q5)) 4 o (some q6)) (L' := L) d_Net_init_48 (kup hq6 (kup hq5 (kup hq4 (kup hq3 (kup hva (kup hvb (kup hq2 (ho)))))))) 4 (by decide) wF_Net_34 rfl rfl rfl (t_Net_ok 4 (by decide)) rfl rfl sF_4 (oR _ _ _ 4 _) ?_
  refine wp_iconst (v := nI 0) d_Net_init_51 (by decide) ?_
  refine wp_istore_n (lv' := [(1, .int (nI 0)), (0, .ref o)]) d_Net_init_52 rfl (by decide) rfl ?_
  obtain ⟨γ, h0⟩ := net_0 ρ hD ho hz hq2 hvb hva hq3 hq4 hq5 hq6; exact L2 6 0 γ _ _ _ _ _ _ _ _ _ (by omega) (by omega) h0
end Cls37
