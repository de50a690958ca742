section Ring2
variable {G : Gt} {Γ : Gm} {ρ ρ' : Nat → Nat} {K N : Nat → Nat} {I : Nat → Nat → Int32} {R : Nat → Nat → Option Nat} {L : Nat → Nat → Int64} {E : Nat → Nat → Int32} {El : Nat → Nat → Int64} {Er : Nat → Nat → Option Nat} {K' N' : Nat → Nat} {I' : Nat → Nat → Int32} {R' : Nat → Nat → Option Nat} {L' : Nat → Nat → Int64} {E' : Nat → Nat → Int32} {El' : Nat → Nat → Int64} {Er' : Nat → Nat → Option Nat} {s : Sa} {SI SR XE XEl XEr : List Nat} {c : Nat}
theorem otC_lt (h : c < 16) : otC c < 16 := by unfold otC; omega
theorem otC_2 (c : Nat) : otC c / 2 = c / 2 := by unfold otC; omega
theorem otC_otC (c : Nat) : otC (otC c) = c := by unfold otC; omega
theorem otC_ne (c : Nat) : otC c ≠ c := by unfold otC; omega
theorem otC_e (l : Nat) : otC (2 * l) = 2 * l + 1 := by unfold otC; omega
theorem otC_o (l : Nat) : otC (2 * l + 1) = 2 * l := by unfold otC; omega
/-- one channel of the state changes: its rings, its numbers; the request's minute stands at the other -/
theorem RepN.ch (h : RepN Γ ρ K N I R L E El Er s) (hc : c < 16) (hs : (sLn s (c / 2)).isSome = true) {d : Ch} (F : Fr0 ρ ρ' K N K' N' I I' R R' L L' E E' El El' Er Er' [10, 11, 12, 13, 36, 37] [] [] [] [Γ 11 c, Γ 13 c]) (hD : DF K' I' R' L' E' El' Er')
    (h36 : ∀ g q, (g = 36 ∨ g = 37) → q ≠ Γ 10 c → q ≠ Γ 12 c → K q ≠ 0 → I' g q = I g q) (h10 : ∀ g q, 10 ≤ g → g ≤ 12 → q ≠ Γ 7 c → K q ≠ 0 → I' g q = I g q) (h13 : ∀ q, q ≠ Γ 7 (otC c) → K q ≠ 0 → I' 13 q = I 13 q)
    (hk : RgF Γ K' N' I' R' Er' (Γ 10 c) (Γ 11 c) 20 (cSent d) (kpF d)) (hw : RgF Γ K' N' I' R' Er' (Γ 12 c) (Γ 13 c) 200 (cSent d) (cWire d)) (i10 : I' 10 (Γ 7 c) = nI ((cSent d).length + 1)) (i11 : I' 11 (Γ 7 c) = nI (cExp d)) (i12 : I' 12 (Γ 7 c) = nI (cPut d)) (i13 : I' 13 (Γ 7 (otC c)) = akI (cAsk d)) : RepN Γ ρ' K' N' I' R' L' E' El' Er' (ch1 s c d) := by
  have n := h.nt
  have m11 : ∀ q t, K q = 20 + t → t ≠ 5 → q ∉ [Γ 11 c, Γ 13 c] := by
    intro q t hq ht hm
    obtain ⟨-, -, -, -, ⟨p5, f5, -⟩, ⟨p6, f6, -⟩⟩ := h.ri c hc hs
    have a1 := f5.2.1
    have a2 := f6.2.1
    simp only [List.mem_cons, List.not_mem_nil, or_false] at hm
    rcases hm with e | e
    · rw [e] at hq; omega
    · rw [e] at hq; omega
  have u : ∀ c', c' ≠ c → sCh (ch1 s c d) c' = sCh s c' := fun c' hne => by show va_up (sCh s) c d c' = _; simp [va_up, hne]
  have u0 : sCh (ch1 s c d) c = d := by show va_up (sCh s) c d c = _; simp [va_up]
  refine ⟨hD, n.fr F (by decide) (fun _ _ => List.not_mem_nil), h.dr.fr F (by decide) List.not_mem_nil, h.sw.fr F (by have := n.2.2.2.2.2.2.2.2.1; omega) (fun g h1 h2 hm => by simp only [List.mem_cons, List.not_mem_nil, or_false] at hm; omega) (fun _ _ _ => List.not_mem_nil) (m11 _ 8 n.2.2.2.2.2.2.2.2.1 (by decide)),
    h.en.fr F (fun x hx => by have := (h.sw x hx).2.2.2.2.2.2.1; omega) (fun g h1 h2 hm => by simp only [List.mem_cons, List.not_mem_nil, or_false] at hm; omega) (fun x hx => m11 _ 6 (h.sw x hx).2.2.2.2.2.2.1 (by decide)), h.dk.fr F (fun x hx => by have := (h.sw x hx).2.2.2.2.2.2.2.2.2.1; omega) (fun x hx => m11 _ 7 (h.sw x hx).2.2.2.2.2.2.2.2.2.1 (by decide)), h.hl.fr F (by decide) (by decide),
    h.li.fr F (by have := n.2.2.2.2.2.2.2.2.2.2.1; omega) (by decide) (by decide) (m11 _ 9 n.2.2.2.2.2.2.2.2.2.2.1 (by decide)), ?_, h.qu.fr F (fun c hc hs => by have := (h.ci c hc hs).2.2.2.2.2.1; omega) (by decide) (by decide) (fun c' hc' hs' => m11 _ 4 (h.ci c' hc' hs').2.2.2.2.2.1 (by decide)), ?_, h.mg.fr F (by have := n.2.2.2.2.2.2.2.2.2.2.2.2.1; omega) (by decide) (by decide) (fun _ _ => ⟨List.not_mem_nil, List.not_mem_nil⟩) (m11 _ 7 n.2.2.2.2.2.2.2.2.2.2.2.2.1 (by decide))⟩
  · intro c' hc' hs'
    obtain ⟨a1, a2, b1, b2, b3, c1, c2, d1, d2, d3, d4⟩ := h.ci c' hc' hs'
    have k : K (Γ 7 c') ≠ 0 := by omega
    have hne : ∀ z, z < 16 → (sLn s (z / 2)).isSome = true → c' ≠ z → Γ 7 c' ≠ Γ 7 z := fun z hz hz2 hn e => by
      have := (h.ci z hz hz2).2.1
      rw [← e, a2] at this
      omega
    have hso : (sLn s (otC c / 2)).isSome = true := by rw [otC_2]; exact hs
    refine ⟨F.k a1, F.p k a2, F.r List.not_mem_nil k b1, F.r List.not_mem_nil k b2, F.r List.not_mem_nil k b3, F.a c1, F.n (by omega) c2, ?_, ?_, ?_, ?_⟩
    · by_cases hcc : c' = c
      · subst hcc; rw [u0]; exact i10
      · rw [u c' hcc]; exact (h10 10 _ (by decide) (by decide) (hne c hc hs hcc) k).trans d1
    · by_cases hcc : c' = c
      · subst hcc; rw [u0]; exact i11
      · rw [u c' hcc]; exact (h10 11 _ (by decide) (by decide) (hne c hc hs hcc) k).trans d2
    · by_cases hcc : c' = c
      · subst hcc; rw [u0]; exact i12
      · rw [u c' hcc]; exact (h10 12 _ (by decide) (by decide) (hne c hc hs hcc) k).trans d3
    · by_cases hcc : c' = otC c
      · rw [hcc, otC_otC, u0]; exact i13
      · rw [u (otC c') (fun e => hcc (by rw [← e, otC_otC]))]
        exact (h13 _ (hne (otC c) (otC_lt hc) hso hcc) k).trans d4
  · intro c' hc' hs'
    obtain ⟨a1, a2, a3, a4, a5, a6⟩ := h.ri c' hc' hs'
    obtain ⟨r1, r2, r3, r4, r5, r6⟩ := h.ri c hc hs
    obtain ⟨p5, f5, e5, g5⟩ := id a5
    obtain ⟨p6, f6, e6, g6⟩ := id a6
    have q1 : K (Γ 10 c') ≠ 0 := by have := f5.1; omega
    have q2 : K (Γ 11 c') ≠ 0 := by have := f5.2.1; omega
    have q3 : K (Γ 12 c') ≠ 0 := by have := f6.1; omega
    have q4 : K (Γ 13 c') ≠ 0 := by have := f6.2.1; omega
    refine ⟨F.p q1 a1, F.p q2 a2, F.p q3 a3, F.p q4 a4, ?_⟩
    by_cases hcc : c' = c
    · subst hcc; rw [u0]; exact ⟨hk, hw⟩
    · rw [u c' hcc]
      have n1 : Γ 10 c' ≠ Γ 10 c := fun e => by rw [e, r1] at a1; omega
      have n2 : Γ 10 c' ≠ Γ 12 c := fun e => by rw [e, r3] at a1; omega
      have n3 : Γ 12 c' ≠ Γ 10 c := fun e => by rw [e, r1] at a3; omega
      have n4 : Γ 12 c' ≠ Γ 12 c := fun e => by rw [e, r3] at a3; omega
      have n5 : Γ 11 c' ∉ [Γ 11 c, Γ 13 c] := fun hm => by
        simp only [List.mem_cons, List.not_mem_nil, or_false] at hm
        rcases hm with e | e
        · rw [e, r2] at a2; omega
        · rw [e, r4] at a2; omega
      have n6 : Γ 13 c' ∉ [Γ 11 c, Γ 13 c] := fun hm => by
        simp only [List.mem_cons, List.not_mem_nil, or_false] at hm
        rcases hm with e | e
        · rw [e, r2] at a4; omega
        · rw [e, r4] at a4; omega
      have fm : ∀ {f r cap : Nat} {ps : List (Nat × Nat × Nat)}, FS K N I R Er f r cap (ps.map Prod.fst) → ∀ q ∈ ps, K q.1 = 6 + 1 := fun hF q hq => by
        obtain ⟨-, -, -, -, -, st, -, -, -, -, hm⟩ := hF
        obtain ⟨i, hi, e⟩ := List.getElem_of_mem (List.mem_map_of_mem (f := Prod.fst) hq)
        exact (hm i q.1 (by rw [List.getElem?_eq_getElem hi, e])).2
      exact ⟨⟨p5, f5.keep (fun q c h => F.k h) (F.n q2 rfl) (h36 36 _ (Or.inl rfl) n1 n2 q1) (h36 37 _ (Or.inr rfl) n1 n2 q1) (F.r List.not_mem_nil q1 rfl) (F.2.2.2.2.2.2 _ n5 q2), e5, fun q hq => (g5 q hq).fr (fm f5 q hq) F (by decide) (by decide)⟩,
        ⟨p6, f6.keep (fun q c h => F.k h) (F.n q4 rfl) (h36 36 _ (Or.inl rfl) n3 n4 q3) (h36 37 _ (Or.inr rfl) n3 n4 q3) (F.r List.not_mem_nil q3 rfl) (F.2.2.2.2.2.2 _ n6 q4), e6, fun q hq => (g6 q hq).fr (fm f6 q hq) F (by decide) (by decide)⟩⟩
end Ring2
