section Lists
variable {G : Gt} {Γ : Gm} {ρ ρ' : Nat → Nat} {K N : Nat → Nat} {I : Nat → Nat → Int32} {R : Nat → Nat → Option Nat} {L : Nat → Nat → Int64} {E : Nat → Nat → Int32} {El : Nat → Nat → Int64} {Er : Nat → Nat → Option Nat} {I' : Nat → Nat → Int32} {R' : Nat → Nat → Option Nat} {s : Sa} {t l t2 l2 : Nat} {xs : List Nat} {cs : List Cy}
theorem cp1.o {a : Nat} {c : Cy} (h : cp1 Γ I R a c) (h1 : lI l I I') (h2 : lR l xs R R') : cp1 Γ I' R' a c :=
  ⟨(h2 14 a (Or.inr ⟨by decide, by decide⟩) (Or.inl (by decide))).trans h.1, (h1 15 a (Or.inr (by decide))).trans h.2.1, (h1 16 a (Or.inr (by decide))).trans h.2.2⟩
theorem LsC.o (h : LsC Γ ρ K I R t2 l2 cs) (hl : l2 ≠ l) (ht : ∀ a ∈ xs, ρ a ≠ t2) (h1 : lI l I I') (h2 : lR l xs R R') : LsC Γ ρ K I' R' t2 l2 cs := by
  obtain ⟨ps, hc, he, hp⟩ := h
  exact ⟨ps, hc.other hl ht h1 h2, he, fun q hq => (hp q hq).o h1 h2⟩
theorem LsC.kl (h : LsC Γ ρ K I R t l cs) : K l = 3 + 1 := by obtain ⟨ps, hc, -⟩ := h; exact hc.1
theorem Fr0_ls (h1 : lI l I I') (h2 : lR l xs R R') : Fr0 ρ ρ K N K N I I' R R' L L E E El El Er Er [20] [17, 18, 19] [] [] [] :=
  ⟨fun _ _ => ⟨rfl, rfl, rfl⟩, fun g q hg _ => h1 g q (Or.inr (fun e => hg (by rw [e]; exact List.mem_singleton.mpr rfl))), fun g q hg _ => h2 g q (Or.inr ⟨fun e => hg (by rw [e]; decide), fun e => hg (by rw [e]; decide)⟩) (Or.inl (fun e => hg (by rw [e]; decide))), fun _ _ _ => rfl, fun _ _ _ => rfl, fun _ _ _ => rfl, fun _ _ _ => rfl⟩
/-- the lists change, nothing else -/
theorem RepN.lst (h : RepN Γ ρ K N I R L E El Er s) {cp : List Cy} (h1 : lI l I I') (h2 : lR l xs R R') (hl : K l ≠ 0) (hx : ∀ a ∈ xs, K a ≠ 0) (hH : ∀ x, x < 6 → LsC Γ ρ K I' R' (800000 + x) (Γ 4 x) (hlF (wCp s cp) x)) (hQ : ∀ c, c < 16 → (sLn s (c / 2)).isSome = true → ∀ p, p < 5 → LsC Γ ρ K I' R' (900000 + (5 * c + p)) (Γ 9 (5 * c + p)) (quF (wCp s cp) c p)) : RepN Γ ρ K N I' R' L E El Er (wCp s cp) := by
  have n := h.nt
  have F : Fr0 ρ ρ K N K N I I' R R' L L E E El El Er Er [20] [17, 18, 19] [] [] [] := Fr0_ls h1 h2
  have hD : DF K I' R' L E El Er := by
    intro q hq
    obtain ⟨a, b, c, d, e, f⟩ := h.df q hq
    have q1 : q ≠ l := fun e => hl (by rw [← e]; exact hq)
    have q2 : q ∉ xs := fun e => hx q e hq
    exact ⟨fun g => (h1 g q (Or.inl q1)).trans (a g), fun g => (h2 g q (Or.inl q1) (Or.inr q2)).trans (b g), c, d, e, f⟩
  refine ⟨hD, n.fr F (by decide) (fun g hg hm => by simp only [List.mem_cons, List.not_mem_nil, or_false] at hm; omega), h.dr.fr F (by decide) List.not_mem_nil, h.sw.fr F (by have := n.2.2.2.2.2.2.2.2.1; omega) (fun g h1 h2 hm => by rw [List.mem_singleton.mp hm] at h1; omega) (fun g h1 h2 hm => by simp only [List.mem_cons, List.not_mem_nil, or_false] at hm; omega) List.not_mem_nil, h.en.fr F (fun x hx => by have := (h.sw x hx).2.2.2.2.2.2.1; omega) (fun g h1 h2 hm => by rw [List.mem_singleton.mp hm] at h1; omega) (fun _ _ => List.not_mem_nil), h.dk, fun x hx => ⟨(h.hl x hx).1, hH x hx⟩, h.li.fr F (by have := n.2.2.2.2.2.2.2.2.2.2.1; omega) (by decide) (by decide) List.not_mem_nil, h.ci.fr F (fun g h1 h2 hm => by rw [List.mem_singleton.mp hm] at h2; omega) (fun g h1 h2 hm => by simp only [List.mem_cons, List.not_mem_nil, or_false] at hm; omega), fun c hc hs p hp => ⟨(h.qu c hc hs p hp).1, (h.qu c hc hs p hp).2.1, hQ c hc hs p hp⟩, h.ri.fr F (by decide) (by decide) (fun _ _ _ => ⟨List.not_mem_nil, List.not_mem_nil⟩), h.mg.fr F (by have := n.2.2.2.2.2.2.2.2.2.2.2.2.1; omega) (by decide) (by decide) (fun _ _ => ⟨List.not_mem_nil, List.not_mem_nil⟩) List.not_mem_nil⟩
theorem hl_ne (h : RepN Γ ρ K N I R L E El Er s) {x x2 : Nat} (hx : x < 6) (hx2 : x2 < 6) (hne : x2 ≠ x) : Γ 4 x2 ≠ Γ 4 x := fun e => by have a := (h.hl x hx).1; rw [← e, (h.hl x2 hx2).1] at a; omega
theorem hq_ne (h : RepN Γ ρ K N I R L E El Er s) {x c p : Nat} (hx : x < 6) (hc : c < 16) (hs : (sLn s (c / 2)).isSome = true) (hp : p < 5) : Γ 4 x ≠ Γ 9 (5 * c + p) := fun e => by have a := (h.qu c hc hs p hp).2.1; rw [← e, (h.hl x hx).1] at a; omega
theorem qq_ne (h : RepN Γ ρ K N I R L E El Er s) {c p c2 p2 : Nat} (hc : c < 16) (hs : (sLn s (c / 2)).isSome = true) (hp : p < 5) (hc2 : c2 < 16) (hs2 : (sLn s (c2 / 2)).isSome = true) (hp2 : p2 < 5) (hne : c2 ≠ c ∨ p2 ≠ p) : Γ 9 (5 * c2 + p2) ≠ Γ 9 (5 * c + p) := fun e => by have a := (h.qu c hc hs p hp).2.1; rw [← e, (h.qu c2 hc2 hs2 p2 hp2).2.1] at a; omega
/-- the queue of channel c, priority p, changes -/
theorem RepN.qu1 (h : RepN Γ ρ K N I R L E El Er s) {cp : List Cy} {c p : Nat} (hc : c < 16) (hs : (sLn s (c / 2)).isSome = true) (hp : p < 5) (hm : ∀ a ∈ xs, K a = 2 + 1 ∧ ρ a = 900000 + (5 * c + p)) (h1 : lI (Γ 9 (5 * c + p)) I I') (h2 : lR (Γ 9 (5 * c + p)) xs R R') (hn : LsC Γ ρ K I' R' (900000 + (5 * c + p)) (Γ 9 (5 * c + p)) (quF (wCp s cp) c p)) (eH : ∀ x, x < 6 → hlF (wCp s cp) x = hlF s x) (eQ : ∀ c2 p2, c2 < 16 → p2 < 5 → (c2 ≠ c ∨ p2 ≠ p) → quF (wCp s cp) c2 p2 = quF s c2 p2) : RepN Γ ρ K N I' R' L E El Er (wCp s cp) := by
  refine h.lst h1 h2 (by have := (h.qu c hc hs p hp).2.2.kl; omega) (fun a ha => by have := (hm a ha).1; omega) (fun x hx => ?_) (fun c2 hc2 hs2 p2 hp2 => ?_)
  · rw [eH x hx]
    exact (h.hl x hx).2.o (hq_ne h hx hc hs hp) (fun a ha e => by rw [(hm a ha).2] at e; omega) h1 h2
  · by_cases hcc : c2 ≠ c ∨ p2 ≠ p
    · rw [eQ c2 p2 hc2 hp2 hcc]
      exact (h.qu c2 hc2 hs2 p2 hp2).2.2.o (qq_ne h hc hs hp hc2 hs2 hp2 hcc) (fun a ha e => by rw [(hm a ha).2] at e; omega) h1 h2
    · obtain ⟨rfl, rfl⟩ : c2 = c ∧ p2 = p := by omega
      exact hn
/-- the held ones of switch x change -/
theorem RepN.hl1 (h : RepN Γ ρ K N I R L E El Er s) {cp : List Cy} {x : Nat} (hx : x < 6) (hm : ∀ a ∈ xs, K a = 2 + 1 ∧ ρ a = 800000 + x) (h1 : lI (Γ 4 x) I I') (h2 : lR (Γ 4 x) xs R R') (hn : LsC Γ ρ K I' R' (800000 + x) (Γ 4 x) (hlF (wCp s cp) x)) (eH : ∀ x2, x2 < 6 → x2 ≠ x → hlF (wCp s cp) x2 = hlF s x2) (eQ : ∀ c2 p2, c2 < 16 → p2 < 5 → quF (wCp s cp) c2 p2 = quF s c2 p2) : RepN Γ ρ K N I' R' L E El Er (wCp s cp) := by
  refine h.lst h1 h2 (by have := (h.hl x hx).2.kl; omega) (fun a ha => by have := (hm a ha).1; omega) (fun x2 hx2 => ?_) (fun c2 hc2 hs2 p2 hp2 => ?_)
  · by_cases hxx : x2 = x
    · subst hxx
      exact hn
    · rw [eH x2 hx2 hxx]
      exact (h.hl x2 hx2).2.o (hl_ne h hx hx2 hxx) (fun a ha e => by rw [(hm a ha).2] at e; omega) h1 h2
  · rw [eQ c2 p2 hc2 hp2]
    exact (h.qu c2 hc2 hs2 p2 hp2).2.2.o (hq_ne h hx hc2 hs2 hp2).symm (fun a ha e => by rw [(hm a ha).2] at e; omega) h1 h2
/-! what the lists of the state are behind a change -/
theorem flt_app {α : Type} (q : α → Bool) (l : List α) (x : α) : (l ++ [x]).filter q = l.filter q ++ (if q x then [x] else []) := by
  rw [List.filter_append]
  congr 1
  cases hq : q x <;> simp [hq]
theorem flt_erase {α : Type} {q : α → Bool} : ∀ {l : List α} {i : Nat} {x : α}, l[i]? = some x → q x = false → (l.eraseIdx i).filter q = l.filter q
  | [], i, x, h, _ => by simp at h
  | a :: l, 0, x, h, hq => by
    simp at h
    subst h
    simp [hq]
  | a :: l, i + 1, x, h, hq => by
    simp at h
    rw [List.eraseIdx_cons_succ, List.filter_cons, List.filter_cons, flt_erase h hq]
theorem flt_first {α : Type} {q : α → Bool} : ∀ {l : List α} {i : Nat} {x : α}, l[i]? = some x → q x = true → (∀ j z, j < i → l[j]? = some z → q z = false) → l.filter q = x :: (l.eraseIdx i).filter q
  | [], i, x, h, _, _ => by simp at h
  | a :: l, 0, x, h, hq, _ => by
    simp at h
    subst h
    simp [hq]
  | a :: l, i + 1, x, h, hq, hj => by
    simp at h
    have ha := hj 0 a (by omega) rfl
    rw [List.eraseIdx_cons_succ, List.filter_cons, List.filter_cons, ha]
    simp only [Bool.false_eq_true, if_false]
    exact flt_first h hq (fun j z hlt hz => hj (j + 1) z (by omega) hz)
theorem bIdx_no {s : Sa} {c : Nat} : ∀ {k : Nat}, bIdx s c k = none → ∀ j z, j < k → (sCp s)[j]? = some z → ¬ z.1 = c
  | 0, _, j, z, hj, _ => by omega
  | k + 1, h, j, z, hj, hz => by
    rw [bIdx_s] at h
    unfold bStep at h
    by_cases hc : ((sCp s).getD k (0, 0, 0, 0)).1 = c
    · rw [if_pos hc] at h
      cases hb : bIdx s c k with
      | none => rw [hb] at h; cases h
      | some b =>
        rw [hb] at h
        dsimp only at h
        split at h <;> cases h
    · rw [if_neg hc] at h
      rcases Nat.lt_or_ge j k with h1 | h1
      · exact bIdx_no h j z h1 hz
      · obtain rfl : j = k := by omega
        rw [getD_of hz] at hc
        exact hc
/-- the copy that a channel sends next: the first of the first queue that has one -/
theorem bIdx_min {s : Sa} {c : Nat} : ∀ {k i : Nat}, bIdx s c k = some i → (∀ j z, j < k → (sCp s)[j]? = some z → z.1 = c → prioOf s ((sCp s).getD i (0, 0, 0, 0)).2.1 ≤ prioOf s z.2.1) ∧ ∀ j z, j < i → (sCp s)[j]? = some z → z.1 = c → prioOf s ((sCp s).getD i (0, 0, 0, 0)).2.1 < prioOf s z.2.1
  | 0, i, h => by cases h
  | k + 1, i, h => by
    rw [bIdx_s] at h
    unfold bStep at h
    by_cases hc : ((sCp s).getD k (0, 0, 0, 0)).1 = c
    · rw [if_pos hc] at h
      cases hb : bIdx s c k with
      | none =>
        rw [hb] at h
        cases h
        have hnone : ∀ (j : Nat) (z : Cy), j < k → (sCp s)[j]? = some z → z.1 = c → False := by
          intro j z hj hz hzc
          exact (bIdx_no hb j z hj hz) hzc
        refine ⟨fun j z hj hz hzc => ?_, fun j z hj hz hzc => (hnone j z hj hz hzc).elim⟩
        rcases Nat.lt_or_ge j k with h1 | h1
        · exact (hnone j z h1 hz hzc).elim
        · obtain rfl : j = k := by omega
          rw [getD_of hz]
          exact Nat.le_refl _
      | some b =>
        rw [hb] at h
        have ih := bIdx_min hb
        dsimp only at h
        by_cases hlt : prioOf s ((sCp s).getD k (0, 0, 0, 0)).2.1 < prioOf s ((sCp s).getD b (0, 0, 0, 0)).2.1
        · rw [if_pos hlt] at h
          cases h
          refine ⟨fun j z hj hz hzc => ?_, fun j z hj hz hzc => ?_⟩
          · rcases Nat.lt_or_ge j k with h1 | h1
            · have := ih.1 j z h1 hz hzc
              omega
            · obtain rfl : j = k := by omega
              rw [getD_of hz]
              exact Nat.le_refl _
          · have := ih.1 j z hj hz hzc
            omega
        · rw [if_neg hlt] at h
          cases h
          refine ⟨fun j z hj hz hzc => ?_, ih.2⟩
          rcases Nat.lt_or_ge j k with h1 | h1
          · exact ih.1 j z h1 hz hzc
          · obtain rfl : j = k := by omega
            rw [getD_of hz] at hlt
            omega
    · rw [if_neg hc] at h
      have ih := bIdx_min h
      refine ⟨fun j z hj hz hzc => ?_, ih.2⟩
      rcases Nat.lt_or_ge j k with h1 | h1
      · exact ih.1 j z h1 hz hzc
      · obtain rfl : j = k := by omega
        rw [getD_of hz] at hc
        exact absurd hzc hc
theorem quF_nil {s : Sa} {c : Nat} (h : bestOf s c = none) (p : Nat) : quF s c p = [] := by
  rw [bIdx_all] at h
  unfold quF
  rw [List.filter_eq_nil_iff]
  intro z hz
  obtain ⟨j, hj, e⟩ := List.getElem_of_mem hz
  have := bIdx_no h j z hj (by rw [List.getElem?_eq_getElem hj, e])
  simp [this]
theorem best_at {s : Sa} {c b : Nat} (h : bestOf s c = some b) : ∃ e, (sCp s)[b]? = some e ∧ e.1 = c ∧ (∀ p, p < prioOf s e.2.1 → quF s c p = []) ∧ quF s c (prioOf s e.2.1) = e :: quF (wCp s ((sCp s).eraseIdx b)) c (prioOf s e.2.1) ∧ (∀ x, x < 6 → c < 16 → hlF (wCp s ((sCp s).eraseIdx b)) x = hlF s x) ∧ ∀ c2 p2, (c2 ≠ c ∨ p2 ≠ prioOf s e.2.1) → quF (wCp s ((sCp s).eraseIdx b)) c2 p2 = quF s c2 p2 := by
  rw [bIdx_all] at h
  obtain ⟨h1, h2⟩ := bIdx_lt h
  obtain ⟨e, he⟩ := get_of h1
  have hg := getD_of he
  rw [hg] at h2
  obtain ⟨m1, m2⟩ := bIdx_min h
  rw [hg] at m1 m2
  refine ⟨e, he, h2, fun p hp => ?_, ?_, fun x hx hc => ?_, fun c2 p2 hne => ?_⟩
  · unfold quF
    rw [List.filter_eq_nil_iff]
    intro z hz
    obtain ⟨j, hj, ez⟩ := List.getElem_of_mem hz
    intro q
    rw [Bool.and_eq_true, beq_iff_eq, beq_iff_eq] at q
    have := m1 j z hj (by rw [List.getElem?_eq_getElem hj, ez]) q.1
    omega
  · exact flt_first he (by simp [h2]) (fun j z hj hz => by
      cases hq : (z.1 == c && prioOf s z.2.1 == prioOf s e.2.1) with
      | false => rfl
      | true =>
        rw [Bool.and_eq_true, beq_iff_eq, beq_iff_eq] at hq
        have := m2 j z hj hz hq.1
        omega)
  · exact flt_erase he (by simp; omega)
  · exact flt_erase he (by
      cases hq : (e.1 == c2 && prioOf s e.2.1 == p2) with
      | false => exact hq
      | true =>
        rw [Bool.and_eq_true, beq_iff_eq, beq_iff_eq] at hq
        omega)
end Lists
