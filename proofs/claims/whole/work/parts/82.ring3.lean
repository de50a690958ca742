section Ring3
variable {G : Gt} {Γ : Gm} {ρ ρ' : Nat → Nat} {K N : Nat → Nat} {I : Nat → Nat → Int32} {R : Nat → Nat → Option Nat} {L : Nat → Nat → Int64} {E : Nat → Nat → Int32} {El : Nat → Nat → Int64} {Er : Nat → Nat → Option Nat} {I' : Nat → Nat → Int32} {Er' : Nat → Nat → Option Nat} {s : Sa} {c f r f2 r2 cap : Nat} {sent fs : List (Nat × Nat)}
theorem Fr0_ring {r1 r2 : Nat} (h1 : fI f I I') (h2 : fE r Er Er') (hr : r = r1 ∨ r = r2) : Fr0 ρ ρ K N K N I I' R R L L E E El El Er Er' [10, 11, 12, 13, 36, 37] [] [] [] [r1, r2] :=
  ⟨fun _ _ => ⟨rfl, rfl, rfl⟩, fun g q hg _ => h1 g q (Or.inr ⟨fun e => hg (by rw [e]; decide), fun e => hg (by rw [e]; decide)⟩), fun _ _ _ _ => rfl, fun _ _ _ => rfl, fun _ _ _ => rfl, fun _ _ _ => rfl, fun q hq _ => h2 q (fun e => hq (by rw [e]; rcases hr with rfl | rfl <;> simp))⟩
theorem fr1.o {a : Nat} {x : Nat × Nat} (h : fr1 Γ K I R sent a x) (h1 : fI f I I') : fr1 Γ K I' R sent a x := by
  have e : ∀ g q, g ≠ 36 → g ≠ 37 → I' g q = I g q := fun g q a b => h1 g q (Or.inr ⟨a, b⟩)
  refine ⟨(e 32 a (by decide) (by decide)).trans h.1, fun h0 => ?_, fun h0 => ⟨(h.2.2 h0).1, (e 34 a (by decide) (by decide)).trans (h.2.2 h0).2⟩⟩
  obtain ⟨q, x, e1, e2, e3, e4, e5⟩ := h.2.1 h0
  exact ⟨q, x, e1, e2, e3, e4, (e 15 q (by decide) (by decide)).trans e5⟩
theorem RgF.o (h : RgF Γ K N I R Er f2 r2 cap sent fs) (hf : f2 ≠ f) (hr : r2 ≠ r) (h1 : fI f I I') (h2 : fE r Er Er') : RgF Γ K N I' R Er' f2 r2 cap sent fs := by
  obtain ⟨ps, hc, he, hp⟩ := h
  exact ⟨ps, hc.other hf hr h1 h2, he, fun q hq => (hp q hq).o h1⟩
theorem RgF.add (h : RgF Γ K N I R Er f r cap sent fs) {a : Nat} {x : Nat × Nat} (ha : K a = 6 + 1) (hx : fr1 Γ K I R sent a x) : CallE G m_Frs_add 1 15 [.ref f, .ref a] (hN K N I R L E El Er) 0 0 none (fun h' => ∃ I' Er', h' = hN K N I' R L E El Er' ∧ fI f I I' ∧ fE r Er Er' ∧ RgF Γ K N I' R Er' f r cap sent (if fs.length = cap then fs else fs ++ [x])) := by
  obtain ⟨ps, hc, he, hp⟩ := h
  have hl : (ps.map Prod.fst).length = fs.length := by rw [← he, List.length_map, List.length_map]
  refine CallE.up (hc.add ha) (Nat.le_refl _) (Nat.le_refl _) (fun h' hq => ?_)
  obtain ⟨I', Er', e, h1, h2, h3⟩ := hq
  refine ⟨I', Er', e, h1, h2, ?_⟩
  unfold addL at h3
  rw [hl] at h3
  by_cases hcap : fs.length = cap
  · rw [if_pos hcap] at h3 ⊢
    exact ⟨ps, h3, he, fun q hq => (hp q hq).o h1⟩
  · rw [if_neg hcap] at h3 ⊢
    refine ⟨ps ++ [(a, x)], by rw [List.map_append]; exact h3, by rw [List.map_append, he]; rfl, fun q hq => ?_⟩
    rcases List.mem_append.mp hq with hq | hq
    · exact (hp q hq).o h1
    · rw [List.mem_singleton.mp hq]
      exact hx.o h1
theorem RgF.take0 (h : RgF Γ K N I R Er f r cap sent []) : CallR G m_Frs_takeFirst 2 28 [.ref f] (hN K N I R L E El Er) 0 0 (some .null) (hN K N I R L E El Er) := by
  obtain ⟨ps, hc, he, hp⟩ := h
  rw [List.map_eq_nil_iff] at he
  subst he
  exact hc.take0
theorem RgF.take {x : Nat × Nat} (h : RgF Γ K N I R Er f r cap sent (x :: fs)) : ∃ a, K a = 6 + 1 ∧ fr1 Γ K I R sent a x ∧ CallE G m_Frs_takeFirst 2 28 [.ref f] (hN K N I R L E El Er) 0 0 (some (.ref a)) (fun h' => ∃ I', h' = hN K N I' R L E El Er ∧ fI f I I' ∧ RgF Γ K N I' R Er f r cap sent fs) := by
  obtain ⟨ps, hc, he, hp⟩ := h
  cases ps with
  | nil => cases he
  | cons p ps =>
    obtain ⟨a, z⟩ := p
    simp only [List.map_cons, List.cons.injEq] at he
    obtain ⟨rfl, he⟩ := he
    have hc' : FS K N I R Er f r cap (a :: ps.map Prod.fst) := hc
    obtain ⟨-, -, -, -, -, st, -, -, -, -, hm⟩ := id hc'
    refine ⟨a, (hm 0 a rfl).2, hp _ List.mem_cons_self, CallE.up hc'.take (Nat.le_refl _) (Nat.le_refl _) (fun h' hq => ?_)⟩
    obtain ⟨I', e, h1, h2⟩ := hq
    exact ⟨I', e, h1, ps, h2, he, fun q hq => (hp q (List.mem_cons_of_mem _ hq)).o h1⟩
theorem RgF.at0 (h : RgF Γ K N I R Er f r cap sent []) : CallR G m_Frs_frameAt 1 15 [.ref f, .int (nI 0)] (hN K N I R L E El Er) 0 0 (some .null) (hN K N I R L E El Er) := by
  obtain ⟨ps, hc, he, hp⟩ := h
  rw [List.map_eq_nil_iff] at he
  subst he
  exact hc.at0
theorem RgF.at {k : Nat} {x : Nat × Nat} (h : RgF Γ K N I R Er f r cap sent fs) (hx : fs[k]? = some x) : ∃ a, K a = 6 + 1 ∧ fr1 Γ K I R sent a x ∧ CallR G m_Frs_frameAt 1 15 [.ref f, .int (nI k)] (hN K N I R L E El Er) 0 0 (some (.ref a)) (hN K N I R L E El Er) := by
  obtain ⟨ps, hc, he, hp⟩ := h
  rw [← he, List.getElem?_map] at hx
  cases hk : ps[k]? with
  | none => rw [hk] at hx; cases hx
  | some p =>
    rw [hk] at hx
    cases hx
    have hk2 : (ps.map Prod.fst)[k]? = some p.1 := by rw [List.getElem?_map, hk]; rfl
    obtain ⟨-, -, -, -, -, st, -, -, -, -, hm⟩ := id hc
    exact ⟨p.1, (hm k p.1 hk2).2, hp p (List.mem_of_getElem? hk), hc.at hk2⟩
theorem RgF.dbl {x : Nat × Nat} (h : RgF Γ K N I R Er f r cap sent (x :: fs)) (hlt : fs.length + 1 < cap) : CallE G m_Frs_doubleFirst 2 28 [.ref f] (hN K N I R L E El Er) 0 0 (some (.int (bI true))) (fun h' => ∃ I' Er', h' = hN K N I' R L E El Er' ∧ fI f I I' ∧ fE r Er Er' ∧ RgF Γ K N I' R Er' f r cap sent (x :: x :: fs)) := by
  obtain ⟨ps, hc, he, hp⟩ := h
  cases ps with
  | nil => cases he
  | cons p ps =>
    obtain ⟨a, z⟩ := p
    simp only [List.map_cons, List.cons.injEq] at he
    obtain ⟨rfl, he⟩ := he
    have hc' : FS K N I R Er f r cap (a :: ps.map Prod.fst) := hc
    have hl : (ps.map Prod.fst).length = fs.length := by rw [← he, List.length_map, List.length_map]
    refine CallE.up (hc'.dbl (by rw [hl]; exact hlt)) (Nat.le_refl _) (Nat.le_refl _) (fun h' hq => ?_)
    obtain ⟨I', Er', e, h1, h2, h3⟩ := hq
    refine ⟨I', Er', e, h1, h2, (a, z) :: (a, z) :: ps, h3, by simp [he], fun q hq => (hp q ?_).o h1⟩
    rcases List.mem_cons.mp hq with rfl | hq
    · exact List.mem_cons_self
    · exact hq
theorem RgF.dbl0 (h : RgF Γ K N I R Er f r cap sent fs) (hx : fs = [] ∨ fs.length = cap) : CallR G m_Frs_doubleFirst 2 28 [.ref f] (hN K N I R L E El Er) 0 0 (some (.int (bI false))) (hN K N I R L E El Er) := by
  obtain ⟨ps, hc, he, hp⟩ := h
  have hl : (ps.map Prod.fst).length = fs.length := by rw [← he, List.length_map, List.length_map]
  refine hc.dbl0 ?_
  rcases hx with rfl | hx
  · rw [List.map_eq_nil_iff] at he
    subst he
    exact Or.inl rfl
  · exact Or.inr (hl.trans hx)
theorem RgF.lose (h : RgF Γ K N I R Er f r cap sent fs) : CallE G m_Frs_loseAll 0 0 [.ref f] (hN K N I R L E El Er) 0 0 none (fun h' => ∃ I', h' = hN K N I' R L E El Er ∧ fI f I I' ∧ RgF Γ K N I' R Er f r cap sent []) := by
  obtain ⟨ps, hc, he, hp⟩ := h
  refine CallE.up hc.lose (Nat.le_refl _) (Nat.le_refl _) (fun h' hq => ?_)
  obtain ⟨I', e, h1, h2⟩ := hq
  exact ⟨I', e, h1, [], h2, rfl, fun q hq => (by cases hq)⟩
theorem RgF.full (h : RgF Γ K N I R Er f r cap sent fs) : CallR G m_Frs_isFull 0 0 [.ref f] (hN K N I R L E El Er) 0 0 (some (.int (bI (fs.length == cap)))) (hN K N I R L E El Er) := by
  obtain ⟨ps, hc, he, hp⟩ := h
  have hl : (ps.map Prod.fst).length = fs.length := by rw [← he, List.length_map, List.length_map]
  rw [← hl]
  exact hc.full
theorem RgF.kf (h : RgF Γ K N I R Er f r cap sent fs) : K f ≠ 0 ∧ K r ≠ 0 := by
  obtain ⟨ps, hc, -⟩ := h
  have h1 := hc.1
  have h2 := hc.2.1
  constructor <;> omega
theorem ch1_comm (s : Sa) {c c2 : Nat} (d d2 : Ch) (h : c ≠ c2) : ch1 (ch1 s c d) c2 d2 = ch1 (ch1 s c2 d2) c d := by
  unfold ch1
  show wCh _ (va_up (va_up (sCh s) c d) c2 d2) = wCh _ (va_up (va_up (sCh s) c2 d2) c d)
  have e : va_up (va_up (sCh s) c d) c2 d2 = va_up (va_up (sCh s) c2 d2) c d := by
    funext x
    by_cases hx : x = c
    · subst hx
      simp [va_up, h]
    · by_cases hx2 : x = c2
      · subst hx2
        simp [va_up, hx]
      · simp [va_up, hx, hx2]
  rw [e]
theorem sCh_at (s : Sa) (c : Nat) (d : Ch) : sCh (ch1 s c d) c = d := by show va_up (sCh s) c d c = _; simp [va_up]
theorem sCh_ne (s : Sa) {c c2 : Nat} (d : Ch) (h : c2 ≠ c) : sCh (ch1 s c d) c2 = sCh s c2 := by show va_up (sCh s) c d c2 = _; simp [va_up, h]
/-- the wire of a channel changes -/
theorem RepN.wire (h : RepN Γ ρ K N I R L E El Er s) (hc : c < 16) (hs : (sLn s (c / 2)).isSome = true) {w : List (Nat × Nat)} (h1 : fI (Γ 12 c) I I') (h2 : fE (Γ 13 c) Er Er') (hw : RgF Γ K N I' R Er' (Γ 12 c) (Γ 13 c) 200 (cSent (sCh s c)) w) : RepN Γ ρ K N I' R L E El Er' (ch1 s c (wWire (sCh s c) w)) := by
  obtain ⟨a1, a2, a3, a4, a5, a6⟩ := h.ri c hc hs
  obtain ⟨e1, e2, e3, e4, e5, e6, e7, d1, d2, d3, -⟩ := h.ci c hc hs
  have hso : (sLn s (otC c / 2)).isSome = true := by rw [otC_2]; exact hs
  have d4 := (h.ci (otC c) (otC_lt hc) hso).2.2.2.2.2.2.2.2.2.2
  rw [otC_otC] at d4
  have n1 : Γ 10 c ≠ Γ 12 c := fun e => by rw [e, a3] at a1; omega
  have n2 : Γ 11 c ≠ Γ 13 c := fun e => by rw [e, a4] at a2; omega
  have e : ∀ g q, g ≠ 36 → g ≠ 37 → I' g q = I g q := fun g q a b => h1 g q (Or.inr ⟨a, b⟩)
  exact h.ch hc hs (Fr0_ring h1 h2 (Or.inr rfl)) (DF_f h.df a6.kf.1 a6.kf.2 h1 h2) (fun g q hg _ hq _ => h1 g q (Or.inl hq)) (fun g q g1 g2 _ _ => e g q (by omega) (by omega)) (fun q _ _ => e 13 q (by decide) (by decide)) (a5.o n1 n2 h1 h2) hw ((e 10 _ (by decide) (by decide)).trans d1) ((e 11 _ (by decide) (by decide)).trans d2) ((e 12 _ (by decide) (by decide)).trans d3) ((e 13 _ (by decide) (by decide)).trans d4)
/-- what a channel keeps changes -/
theorem RepN.kept (h : RepN Γ ρ K N I R L E El Er s) (hc : c < 16) (hs : (sLn s (c / 2)).isSome = true) {k : Nat} (h1 : fI (Γ 10 c) I I') (h2 : fE (Γ 11 c) Er Er') (hk : RgF Γ K N I' R Er' (Γ 10 c) (Γ 11 c) 20 (cSent (sCh s c)) (kpF (wKept (sCh s c) k))) : RepN Γ ρ K N I' R L E El Er' (ch1 s c (wKept (sCh s c) k)) := by
  obtain ⟨a1, a2, a3, a4, a5, a6⟩ := h.ri c hc hs
  obtain ⟨e1, e2, e3, e4, e5, e6, e7, d1, d2, d3, -⟩ := h.ci c hc hs
  have hso : (sLn s (otC c / 2)).isSome = true := by rw [otC_2]; exact hs
  have d4 := (h.ci (otC c) (otC_lt hc) hso).2.2.2.2.2.2.2.2.2.2
  rw [otC_otC] at d4
  have n1 : Γ 12 c ≠ Γ 10 c := fun e => by rw [e, a1] at a3; omega
  have n2 : Γ 13 c ≠ Γ 11 c := fun e => by rw [e, a2] at a4; omega
  have e : ∀ g q, g ≠ 36 → g ≠ 37 → I' g q = I g q := fun g q a b => h1 g q (Or.inr ⟨a, b⟩)
  exact h.ch hc hs (Fr0_ring h1 h2 (Or.inl rfl)) (DF_f h.df a5.kf.1 a5.kf.2 h1 h2) (fun g q hg hq _ _ => h1 g q (Or.inl hq)) (fun g q g1 g2 _ _ => e g q (by omega) (by omega)) (fun q _ _ => e 13 q (by decide) (by decide)) hk (a6.o n1 n2 h1 h2) ((e 10 _ (by decide) (by decide)).trans d1) ((e 11 _ (by decide) (by decide)).trans d2) ((e 12 _ (by decide) (by decide)).trans d3) ((e 13 _ (by decide) (by decide)).trans d4)
theorem fr1.u {g q : Nat} {x : Int32} (hg : 10 ≤ g ∧ g ≤ 13) {a : Nat} {z : Nat × Nat} (h : fr1 Γ K I R sent a z) : fr1 Γ K (u2 I g q x) R sent a z := by
  have e : ∀ g2 q2, ¬ (10 ≤ g2 ∧ g2 ≤ 13) → u2 I g q x g2 q2 = I g2 q2 := fun g2 q2 h => by rw [u2_ne _ _ (by omega)]
  refine ⟨(e 32 a (by decide)).trans h.1, fun h0 => ?_, fun h0 => ⟨(h.2.2 h0).1, (e 34 a (by decide)).trans (h.2.2 h0).2⟩⟩
  obtain ⟨q, x, e1, e2, e3, e4, e5⟩ := h.2.1 h0
  exact ⟨q, x, e1, e2, e3, e4, (e 15 q (by decide)).trans e5⟩
theorem RgF.u {g q : Nat} {x : Int32} (hg : 10 ≤ g ∧ g ≤ 13) (h : RgF Γ K N I R Er f r cap sent fs) : RgF Γ K N (u2 I g q x) R Er f r cap sent fs := by
  obtain ⟨ps, hc, he, hp⟩ := h
  exact ⟨ps, hc.keep (fun _ _ h => h) rfl (by rw [u2_ne _ _ (by omega)]) (by rw [u2_ne _ _ (by omega)]) rfl rfl, he, fun q hq => (hp q hq).u hg⟩
theorem Fr0_u {g q : Nat} {x : Int32} (r1 r2 : Nat) (hg : 10 ≤ g ∧ g ≤ 13) : Fr0 ρ ρ K N K N I (u2 I g q x) R R L L E E El El Er Er [10, 11, 12, 13, 36, 37] [] [] [] [r1, r2] :=
  ⟨fun _ _ => ⟨rfl, rfl, rfl⟩, fun g2 q2 hg2 _ => by rw [u2_ne _ _ (fun e => hg2 (by rw [e]; simp; omega))], fun _ _ _ _ => rfl, fun _ _ _ => rfl, fun _ _ _ => rfl, fun _ _ _ => rfl, fun _ _ _ => rfl⟩
/-- a number of a channel changes: 11 what it expects, 12 the minute of its last message frame, 13 (at the other) that of the last request -/
theorem RepN.num (h : RepN Γ ρ K N I R L E El Er s) (hc : c < 16) (hs : (sLn s (c / 2)).isSome = true) {d : Ch} {g q : Nat} {x : Int32} (hg : (g = 11 ∧ q = Γ 7 c ∧ x = nI (cExp d) ∧ d = wExp (sCh s c) (cExp d)) ∨ (g = 12 ∧ q = Γ 7 c ∧ x = nI (cPut d) ∧ d = (cSent (sCh s c), cKept (sCh s c), cExp (sCh s c), cWire (sCh s c), cPut d, cAsk (sCh s c))) ∨ (g = 13 ∧ q = Γ 7 (otC c) ∧ x = akI (cAsk d) ∧ d = wAsk (sCh s c) (cAsk d))) : RepN Γ ρ K N (u2 I g q x) R L E El Er (ch1 s c d) := by
  obtain ⟨a1, a2, a3, a4, a5, a6⟩ := h.ri c hc hs
  obtain ⟨e1, e2, e3, e4, e5, e6, e7, d1, d2, d3, -⟩ := h.ci c hc hs
  have hso : (sLn s (otC c / 2)).isSome = true := by rw [otC_2]; exact hs
  obtain ⟨o1, -, -, -, -, -, -, -, -, -, d4⟩ := h.ci (otC c) (otC_lt hc) hso
  rw [otC_otC] at d4
  have hg2 : 10 ≤ g ∧ g ≤ 13 := by omega
  have hq : K q ≠ 0 := by rcases hg with ⟨-, rfl, -⟩ | ⟨-, rfl, -⟩ | ⟨-, rfl, -⟩ <;> omega
  have eS : cSent d = cSent (sCh s c) := by rcases hg with ⟨-, -, -, hd⟩ | ⟨-, -, -, hd⟩ | ⟨-, -, -, hd⟩ <;> (have h9 := congrArg cSent hd; exact h9)
  have eK : kpF d = kpF (sCh s c) := by rcases hg with ⟨-, -, -, hd⟩ | ⟨-, -, -, hd⟩ | ⟨-, -, -, hd⟩ <;> rw [hd] <;> rfl
  have eW : cWire d = cWire (sCh s c) := by rcases hg with ⟨-, -, -, hd⟩ | ⟨-, -, -, hd⟩ | ⟨-, -, -, hd⟩ <;> (have h9 := congrArg cWire hd; exact h9)
  refine h.ch hc hs (Fr0_u (Γ 11 c) (Γ 13 c) hg2) (DF.pI h.df hq) (fun g2 q2 h9 _ _ _ => by rw [u2_ne _ _ (by omega)]) (fun g2 q2 h9 h8 hq2 _ => ?_) (fun q2 hq2 _ => ?_) (by rw [eS, eK]; exact a5.u hg2) (by rw [eS, eW]; exact a6.u hg2) (by rw [u2_ne _ _ (by omega), eS]; exact d1) ?_ ?_ ?_
  · rcases hg with ⟨rfl, rfl, -⟩ | ⟨rfl, rfl, -⟩ | ⟨rfl, rfl, -⟩
    · exact u2_q _ _ hq2
    · exact u2_q _ _ hq2
    · rw [u2_ne _ _ (by omega)]
  · rcases hg with ⟨rfl, rfl, -⟩ | ⟨rfl, rfl, -⟩ | ⟨rfl, rfl, -⟩
    · rw [u2_ne _ _ (by omega)]
    · rw [u2_ne _ _ (by omega)]
    · exact u2_q _ _ hq2
  · rcases hg with ⟨rfl, rfl, hx, hd⟩ | ⟨rfl, rfl, hx, hd⟩ | ⟨rfl, rfl, hx, hd⟩
    · rw [u2_at, if_pos rfl]; exact hx
    · rw [u2_ne _ _ (by omega), d2, hd]
    · rw [u2_ne _ _ (by omega), d2, hd]; rfl
  · rcases hg with ⟨rfl, rfl, hx, hd⟩ | ⟨rfl, rfl, hx, hd⟩ | ⟨rfl, rfl, hx, hd⟩
    · rw [u2_ne _ _ (by omega), d3, hd]; rfl
    · rw [u2_at, if_pos rfl]; exact hx
    · rw [u2_ne _ _ (by omega), d3, hd]; rfl
  · rcases hg with ⟨rfl, rfl, hx, hd⟩ | ⟨rfl, rfl, hx, hd⟩ | ⟨rfl, rfl, hx, hd⟩
    · rw [u2_ne _ _ (by omega), d4, hd]; rfl
    · rw [u2_ne _ _ (by omega), d4, hd]
    · rw [u2_at, if_pos rfl]; exact hx
end Ring3
