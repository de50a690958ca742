section GmN
variable {Γ Γ' : Gm} {ρ : Nat → Nat} {K N : Nat → Nat} {I : Nat → Nat → Int32} {R : Nat → Nat → Option Nat} {L : Nat → Nat → Int64} {E : Nat → Nat → Int32} {El : Nat → Nat → Int64} {Er : Nat → Nat → Option Nat} {s : Sa}
/-- Γ' is as Γ wherever the state says that there is something -/
def GmE (Γ Γ' : Gm) (s : Sa) : Prop := (∀ k, k < 5 → Γ' k = Γ k) ∧ (∀ x k e, x < 6 → (sRt s x)[k]? = some e → Γ' 5 (16 * x + k) = Γ 5 (16 * x + k)) ∧ (∀ l, l < 8 → (sLn s l).isSome = true → Γ' 6 l = Γ 6 l) ∧ (∀ k c, 7 ≤ k → k ≤ 13 → k ≠ 9 → c < 16 → (sLn s (c / 2)).isSome = true → Γ' k c = Γ k c) ∧ (∀ c p, c < 16 → p < 5 → (sLn s (c / 2)).isSome = true → Γ' 9 (5 * c + p) = Γ 9 (5 * c + p)) ∧ ∀ k m, 14 ≤ k → k ≤ 16 → m ≤ (sMs s).length → Γ' k m = Γ k m
theorem LsC.gm {t l : Nat} {cs : List Cy} (h : LsC Γ ρ K I R t l cs) (e : ∀ c ∈ cs, Γ' 14 c.2.1 = Γ 14 c.2.1) : LsC Γ' ρ K I R t l cs := by
  obtain ⟨ps, hc, he, hp⟩ := h
  refine ⟨ps, hc, he, fun q hq => ?_⟩
  obtain ⟨a, b, c⟩ := hp q hq
  exact ⟨by rw [e q.2 (by rw [← he]; exact List.mem_map_of_mem hq)]; exact a, b, c⟩
theorem RgF.gm {f r cap : Nat} {sent fs : List (Nat × Nat)} (h : RgF Γ K N I R Er f r cap sent fs) (e : ∀ x ∈ sent, Γ' 14 x.1 = Γ 14 x.1) : RgF Γ' K N I R Er f r cap sent fs := by
  obtain ⟨ps, hc, he, hp⟩ := h
  refine ⟨ps, hc, he, fun q hq => ?_⟩
  obtain ⟨a, b, c⟩ := hp q hq
  refine ⟨a, fun h0 => ?_, c⟩
  obtain ⟨q1, x, g1, g2, g3, g4, g5⟩ := b h0
  exact ⟨q1, x, g1, g2, g3, by rw [e x (List.mem_of_getElem? g2)]; exact g4, g5⟩
theorem RepN.gm (h : RepN Γ ρ K N I R L E El Er s) {n0 : Nat} (hV : Inv n0 s) (hE : GmE Γ Γ' s) : RepN Γ' ρ K N I R L E El Er s := by
  obtain ⟨e0, e5, e6, e7, e9, e14⟩ := hE
  obtain ⟨-, -, i3, i4, i5⟩ := hV.2.2.1
  have z0 := e0 0 (by decide)
  have z1 := e0 1 (by decide)
  have z2 := e0 2 (by decide)
  have z3 := e0 3 (by decide)
  have z4 := e0 4 (by decide)
  have ecp : ∀ c ∈ sCp s, Γ' 14 c.2.1 = Γ 14 c.2.1 := fun c hc => e14 14 _ (by decide) (by decide) (i3 c hc).2.2.1.2.1
  refine ⟨h.df, ?_, ?_, fun x hx => ?_, fun x hx k hk => ?_, fun x hx i m hm => ?_, fun x hx => ?_, fun l hl => ?_, fun c hc hs => ?_, fun c hc hs p hp => ?_, fun c hc hs => ?_, fun i m hm => ?_⟩
  · have h' := h.nt
    unfold RNt at h' ⊢
    rw [z0]
    exact h'
  · have h' := h.dr
    unfold RDr at h' ⊢
    rw [z0]
    exact h'
  · rw [z0, z1, z2, z3, z4]
    exact h.sw x hx
  · rw [z2]
    refine ⟨(h.en x hx k hk).1, fun e he => ?_⟩
    have h' := (h.en x hx k hk).2 e he
    unfold en1 at h' ⊢
    rw [e5 x k e hx he]
    exact h'
  · rw [z3, e14 14 m (by decide) (by decide) ((i5 x).2 m (List.mem_of_getElem? hm)).2]
    exact h.dk x hx i m hm
  · rw [z4]
    exact ⟨(h.hl x hx).1, (h.hl x hx).2.gm (fun c hc => ecp c ((List.mem_filter.mp hc).1))⟩
  · rw [z0]
    refine ⟨(h.li l hl).1, fun a b v hv => ?_⟩
    have hs : (sLn s l).isSome = true := by rw [hv]; rfl
    rw [e6 l hl hs, e7 7 (2 * l) (by decide) (by decide) (by decide) (by omega) (by rw [show 2 * l / 2 = l by omega]; exact hs), e7 7 (2 * l + 1) (by decide) (by decide) (by decide) (by omega) (by rw [show (2 * l + 1) / 2 = l by omega]; exact hs)]
    exact (h.li l hl).2 a b v hv
  · rw [e7 7 c (by decide) (by decide) (by decide) hc hs, e7 8 c (by decide) (by decide) (by decide) hc hs, e7 10 c (by decide) (by decide) (by decide) hc hs, e7 12 c (by decide) (by decide) (by decide) hc hs]
    exact h.ci c hc hs
  · rw [e7 8 c (by decide) (by decide) (by decide) hc hs, e9 c p hc hp hs]
    obtain ⟨a, b, d⟩ := h.qu c hc hs p hp
    exact ⟨a, b, d.gm (fun c hc => ecp c ((List.mem_filter.mp hc).1))⟩
  · rw [e7 10 c (by decide) (by decide) (by decide) hc hs, e7 11 c (by decide) (by decide) (by decide) hc hs, e7 12 c (by decide) (by decide) (by decide) hc hs, e7 13 c (by decide) (by decide) (by decide) hc hs]
    obtain ⟨a1, a2, a3, a4, a5, a6⟩ := h.ri c hc hs
    have es : ∀ x ∈ cSent (sCh s c), Γ' 14 x.1 = Γ 14 x.1 := fun x hx => e14 14 _ (by decide) (by decide) ((i4 c).2.2.2.1 x hx).1.2.1
    exact ⟨a1, a2, a3, a4, a5.gm es, a6.gm es⟩
  · have hi := (List.getElem?_eq_some_iff.mp hm).1
    have h' := h.mg i m hm
    unfold mg1 at h' ⊢
    rw [z0, e14 14 (i + 1) (by decide) (by decide) (by omega), e14 15 (i + 1) (by decide) (by decide) (by omega), e14 16 (i + 1) (by decide) (by decide) (by omega)]
    exact h'
theorem DF.pE1 {q : Nat} {g : Nat → Int32} (h : DF K I R L E El Er) (hr : K q ≠ 0) : DF K I R L (va_up E q g) El Er := fun p hp => ⟨(h p hp).1, (h p hp).2.1, (h p hp).2.2.1, fun j => by rw [show va_up E q g p = E p by unfold va_up; rw [if_neg (dne hr hp)]]; exact (h p hp).2.2.2.1 j, (h p hp).2.2.2.2⟩
theorem DF.pEl1 {q : Nat} {g : Nat → Int64} (h : DF K I R L E El Er) (hr : K q ≠ 0) : DF K I R L E (va_up El q g) Er := fun p hp => ⟨(h p hp).1, (h p hp).2.1, (h p hp).2.2.1, (h p hp).2.2.2.1, fun j => by rw [show va_up El q g p = El p by unfold va_up; rw [if_neg (dne hr hp)]]; exact (h p hp).2.2.2.2.1 j, (h p hp).2.2.2.2.2⟩
/-- the draft's own fields and its addresses change -/
theorem RepN.draft (h : RepN Γ ρ K N I R L E El Er s) {I' : Nat → Nat → Int32} {El' : Nat → Nat → Int64} (h1 : gF (Γ 0 1) I I') (h2 : ∀ q, q ≠ Γ 0 3 → El' q = El q) : RepN Γ ρ K N I' R L E El' Er s := by
  have kd := h.dr.1
  have k3 := h.dr.2.2.1
  have p3 := h.dr.2.2.2.2.2.2.2.2.1
  have F : Fr0 ρ ρ K N K N I I' R R L L E E El El' Er Er [23, 24, 25, 26, 27] [] [] [Γ 0 3] [] := ⟨fun _ _ => ⟨rfl, rfl, rfl⟩, fun g q hg _ => h1 g q (by simp only [List.mem_cons, List.not_mem_nil, or_false] at hg; omega), fun _ _ _ _ => rfl, fun _ _ _ => rfl, fun _ _ _ => rfl, fun q hq _ => h2 q (fun e => hq (List.mem_singleton.mpr e)), fun _ _ _ => rfl⟩
  have hD : DF K I' R L E El' Er := fun q hq => ⟨fun g => (h1 g q (Or.inl (fun e => by rw [e] at hq; omega))).trans ((h.df q hq).1 g), (h.df q hq).2.1, (h.df q hq).2.2.1, (h.df q hq).2.2.2.1, fun i => by rw [h2 q (fun e => by rw [e] at hq; omega)]; exact (h.df q hq).2.2.2.2.1 i, (h.df q hq).2.2.2.2.2⟩
  exact ⟨hD, h.nt.fr F (by decide) (fun _ _ => List.not_mem_nil), h.dr.fr F (by decide) List.not_mem_nil, h.sw.fr F (by have := h.nt.2.2.2.2.2.2.2.2.1; omega) (fun g h1 h2 hm => by simp only [List.mem_cons, List.not_mem_nil, or_false] at hm; omega) (fun _ _ _ => List.not_mem_nil) List.not_mem_nil, h.en.fr F (fun x hx => by have := (h.sw x hx).2.2.2.2.2.2.1; omega) (fun g h1 h2 hm => by simp only [List.mem_cons, List.not_mem_nil, or_false] at hm; omega) (fun x hx => List.not_mem_nil), h.dk.fr F (fun x hx => by have := (h.sw x hx).2.2.2.2.2.2.2.2.2.1; omega) (fun _ _ => List.not_mem_nil), h.hl.fr F (by decide) (by decide), h.li.fr F (by have := h.nt.2.2.2.2.2.2.2.2.2.2.1; omega) (by decide) (by decide) List.not_mem_nil, h.ci.fr F (fun g h1 h2 hm => by simp only [List.mem_cons, List.not_mem_nil, or_false] at hm; omega) (fun _ _ _ => List.not_mem_nil), h.qu.fr F (fun c hc hs => by have := (h.ci c hc hs).2.2.2.2.2.1; omega) (by decide) (by decide) (fun c hc hs => List.not_mem_nil), h.ri.fr F (by decide) (by decide) (fun c hc hs => ⟨List.not_mem_nil, List.not_mem_nil⟩), h.mg.fr F (by have := h.nt.2.2.2.2.2.2.2.2.2.2.2.2.1; omega) (by decide) (by decide) (fun i hi => ⟨List.not_mem_nil, fun hm => by
    obtain ⟨m, hm2⟩ := get_of hi
    have := (h.mg i m hm2).2.2.2.2.2.2.2.2.2.2.2.2.2.1
    rw [List.mem_singleton.mp hm, p3] at this
    omega⟩) List.not_mem_nil⟩
theorem prio_old {r : Nat × List (List Nat) × Nat × Nat} {m : Nat} (h1 : 1 ≤ m) (h2 : m ≤ (sMs s).length) : prioOf (addM s r) m = prioOf s m := by
  unfold prioOf
  show ((sMs s ++ [r]).getD (m - 1) (0, [], 0, 0)).1 = _
  rw [List.getD_eq_getElem?_getD, List.getD_eq_getElem?_getD, List.getElem?_append_left (by omega)]
theorem quF_addM {n0 : Nat} (hV : Inv n0 s) (r : Nat × List (List Nat) × Nat × Nat) (c p : Nat) : quF (addM s r) c p = quF s c p := by
  unfold quF
  show (sCp s).filter _ = _
  refine List.filter_congr (fun q hq => ?_)
  have := (hV.2.2.1.2.2.1 q hq).2.2.1
  rw [prio_old this.1 this.2.1]
theorem RepN.msg (h : RepN Γ ρ K N I R L E El Er s) {n0 : Nat} (hV : Inv n0 s) {qm qt qa n na p : Nat} {as : List (List Nat)} {gt : Nat → Int32} {ga : Nat → Int64} (g14 : Γ 14 ((sMs s).length + 1) = qm) (g15 : Γ 15 ((sMs s).length + 1) = qt) (g16 : Γ 16 ((sMs s).length + 1) = qa) (h1 : K qt = 0) (h2 : K qm = 0) (h3 : K qa = 0) (n1 : qm ≠ qt) (n2 : qa ≠ qt) (n3 : qa ≠ qm) (hl : (sMs s).length < 200) (hna : na = as.length) (ht : ∀ i, i < n → gt i = b8 (txtR (sLog s) i)) (ha : ∀ k a, as[k]? = some a → ga k = lN (leN a)) : RepN Γ (va_up (va_up (va_up ρ qt (150000 + ((sMs s).length + 1))) qm (140000 + ((sMs s).length + 1))) qa (160000 + ((sMs s).length + 1))) (va_up (va_up (va_up K qt (20 + 2)) qm (9 + 1)) qa (20 + 1)) (va_up (va_up N qt n) qa na) (u2 (u2 I 45 qm (nI p)) 5 (Γ 0 0) (nI ((sMs s).length + 1))) (u2r (u2r R 43 qm (some qt)) 44 qm (some qa)) L (va_up E qt gt) (va_up El qa ga) (u2r Er (Γ 0 6) (sMs s).length (some qm)) (addM s (p, as, n, (sLog s).length)) := by
  have k0 := h.nt.1
  have k6 := h.nt.2.2.2.2.2.2.2.2.2.2.2.2.1
  have nq : ∀ q, K q ≠ 0 → q ≠ qt ∧ q ≠ qm ∧ q ≠ qa := fun q hq => ⟨dne2 h1 hq, dne2 h2 hq, dne2 h3 hq⟩
  have F : Fr0 ρ (va_up (va_up (va_up ρ qt (150000 + ((sMs s).length + 1))) qm (140000 + ((sMs s).length + 1))) qa (160000 + ((sMs s).length + 1))) K N (va_up (va_up (va_up K qt (20 + 2)) qm (9 + 1)) qa (20 + 1)) (va_up (va_up N qt n) qa na) I (u2 (u2 I 45 qm (nI p)) 5 (Γ 0 0) (nI ((sMs s).length + 1))) R (u2r (u2r R 43 qm (some qt)) 44 qm (some qa)) L L E (va_up E qt gt) El (va_up El qa ga) Er (u2r Er (Γ 0 6) (sMs s).length (some qm)) [5] [] [] [] [Γ 0 6] := ⟨fun q hq => by
      obtain ⟨a, b, c⟩ := nq q hq
      simp [va_up, a, b, c], fun g q hg hq => by rw [u2_ne _ _ (fun e => hg (List.mem_singleton.mpr e)), u2_q _ _ (nq q hq).2.1], fun g q _ hq => by rw [u2r_q _ _ (nq q hq).2.1, u2r_q _ _ (nq q hq).2.1], fun _ _ _ => rfl, fun q _ hq => by simp [va_up, (nq q hq).1], fun q _ hq => by simp [va_up, (nq q hq).2.2], fun q hq _ => u2r_ne _ _ (fun e => hq (List.mem_singleton.mpr e))⟩
  have kt : (va_up (va_up (va_up K qt (20 + 2)) qm (9 + 1)) qa (20 + 1)) qt = 20 + 2 := by simp [va_up, n1.symm, n2.symm]
  have km : (va_up (va_up (va_up K qt (20 + 2)) qm (9 + 1)) qa (20 + 1)) qm = 9 + 1 := by simp [va_up, n3.symm]
  have ka : (va_up (va_up (va_up K qt (20 + 2)) qm (9 + 1)) qa (20 + 1)) qa = 20 + 1 := by simp [va_up]
  have hD : DF (va_up (va_up (va_up K qt (20 + 2)) qm (9 + 1)) qa (20 + 1)) (u2 (u2 I 45 qm (nI p)) 5 (Γ 0 0) (nI ((sMs s).length + 1))) (u2r (u2r R 43 qm (some qt)) 44 qm (some qa)) L (va_up E qt gt) (va_up El qa ga) (u2r Er (Γ 0 6) (sMs s).length (some qm)) := DF.pEr (DF.pEl1 (DF.pE1 (DF.pR (DF.pR (DF.pI (DF.pI (DF.pK (DF.pK (DF.pK h.df (by decide)) (by decide)) (by decide)) (by omega)) (by rw [F.k k0]; decide)) (by omega)) (by omega)) (by omega)) (by omega)) (by rw [F.a k6]; decide)
  have mE : ∀ q t, K q = 20 + t → t ≠ 7 → q ∉ [Γ 0 6] := fun q t hq ht hm => by rw [List.mem_singleton.mp hm] at hq; omega
  obtain ⟨-, i2, i3, i4, i5⟩ := hV.2.2.1
  refine ⟨hD, ?_, h.dr.fr F (by decide) List.not_mem_nil, h.sw.fr F (by have := h.nt.2.2.2.2.2.2.2.2.1; omega) (fun g h1 h2 hm => by simp only [List.mem_cons, List.not_mem_nil, or_false] at hm; omega) (fun _ _ _ => List.not_mem_nil) (mE _ 8 h.nt.2.2.2.2.2.2.2.2.1 (by decide)), h.en.fr F (fun x hx => by have := (h.sw x hx).2.2.2.2.2.2.1; omega) (fun g h1 h2 hm => by simp only [List.mem_cons, List.not_mem_nil, or_false] at hm; omega) (fun x hx => mE _ 6 (h.sw x hx).2.2.2.2.2.2.1 (by decide)), h.dk.fr F (fun x hx => by have := (h.sw x hx).2.2.2.2.2.2.2.2.2.1; omega) (fun x hx hm => ?_), h.hl.fr F (by decide) (by decide), h.li.fr F (by have := h.nt.2.2.2.2.2.2.2.2.2.2.1; omega) (by decide) (by decide) (mE _ 9 h.nt.2.2.2.2.2.2.2.2.2.2.1 (by decide)), h.ci.fr F (fun g h1 h2 hm => by simp only [List.mem_cons, List.not_mem_nil, or_false] at hm; omega) (fun _ _ _ => List.not_mem_nil), ?_, h.ri.fr F (by decide) (by decide) (fun c hc hs => ?_), ?_⟩
  · obtain ⟨a, b1, b2, b3, b4, b5, c1, c2, d1, d2, e1, e2, f1, f2, f3, g1, g2⟩ := h.nt
    have o0 : K (Γ 0 0) ≠ 0 := by omega
    exact ⟨F.k a, F.r List.not_mem_nil o0 b1, F.r List.not_mem_nil o0 b2, F.r List.not_mem_nil o0 b3, F.r List.not_mem_nil o0 b4, F.r List.not_mem_nil o0 b5, by rw [u2_at, if_pos rfl]; show nI _ = nI (sMs s ++ [_]).length; rw [List.length_append]; rfl, F.i (by decide) o0 c2, F.a d1, F.n (by omega) d2, F.a e1, F.n (by omega) e2, F.a f1, F.n (by omega) f2, F.p (by omega) f3, F.a g1, F.n (by omega) g2⟩
  · have p3 := (h.sw x hx).2.2.2.2.2.2.2.2.2.2.2.1
    rw [List.mem_singleton.mp hm, h.nt.2.2.2.2.2.2.2.2.2.2.2.2.2.2.1] at p3
    omega
  · have hq := h.qu.fr F (fun c hc hs => by have := (h.ci c hc hs).2.2.2.2.2.1; omega) (by decide) (by decide) (fun c hc hs => mE _ 4 (h.ci c hc hs).2.2.2.2.2.1 (by decide))
    intro c hc hs p2 hp2
    rw [quF_addM hV]
    exact hq c hc hs p2 hp2
  · obtain ⟨-, -, -, -, ⟨p5, f5, -⟩, ⟨p6, f6, -⟩⟩ := h.ri c hc hs
    have a5 := f5.2.1
    have a6 := f6.2.1
    exact ⟨mE _ 5 a5 (by decide), mE _ 5 a6 (by decide)⟩
  · intro i m hm
    have hm' : (sMs s ++ [(p, as, n, (sLog s).length)])[i]? = some m := hm
    rcases Nat.lt_or_ge i (sMs s).length with hi | hi
    · rw [List.getElem?_append_left hi] at hm'
      obtain ⟨a, b⟩ := h.mg i m hm'
      have hne : i ≠ (sMs s).length := by omega
      refine ⟨by rw [u2r_at, if_neg hne]; exact a, ?_⟩
      exact b.fr F (by decide) (by decide) List.not_mem_nil List.not_mem_nil
    · have hi2 : i = (sMs s).length := by
        have := (List.getElem?_eq_some_iff.mp hm').1
        rw [List.length_append, List.length_singleton] at this
        omega
      subst hi2
      rw [List.getElem?_append_right (Nat.le_refl _), Nat.sub_self] at hm'
      cases hm'
      refine ⟨by rw [u2r_at, if_pos rfl, g14], ?_⟩
      unfold mg1
      rw [g14, g15, g16]
      have z := h.df qm h2
      have cm0 : sCm s ((sMs s).length + 1) = 0 := i2 _ (by omega)
      have dk0 : dkB (sDk s) ((sMs s).length + 1) = 0 := by
        have hno : ∀ x, ((sMs s).length + 1) ∉ sDk s x := fun x hm => by have := ((i5 x).2 _ hm).2; omega
        unfold dkB
        simp [hno, sumN]
        rfl
      refine ⟨km, by simp [va_up, n3.symm], by rw [u2r_ne _ _ (by decide), u2r_at, if_pos rfl], by rw [u2r_at, if_pos rfl], by rw [u2_ne _ _ (by decide), u2_at, if_pos rfl], ?_, ?_, kt, by simp [va_up, n2.symm], by simp [va_up, n1.symm, n2.symm], ka, by simp [va_up, hna], by simp [va_up], fun i hi => ?_, fun k a hk => ?_⟩
      · rw [u2_ne _ _ (by decide), u2_ne _ _ (by decide), z.1 46]
        show (0 : Int32) = nI (sCm s ((sMs s).length + 1))
        rw [cm0]
        rfl
      · rw [u2_ne _ _ (by decide), u2_ne _ _ (by decide), z.1 47]
        show (0 : Int32) = nI (dkB (sDk s) ((sMs s).length + 1))
        rw [dk0]
        rfl
      · show va_up E qt gt qt i = b8 (txtR ((sLog s).drop ((sLog s).length - (sLog s).length)) i)
        rw [Nat.sub_self, List.drop_zero, ← ht i hi]
        simp [va_up]
      · show va_up El qa ga qa k = _
        rw [← ha k a hk]
        simp [va_up]
end GmN
