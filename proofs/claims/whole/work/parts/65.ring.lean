/-! rings of frames and lists of copies as lists -/
section Ring
theorem md2 {a cap : Nat} (h : a < 2 * cap) : a % cap = if a < cap then a else a - cap := by
  split
  · rename_i h1
    exact Nat.mod_eq_of_lt h1
  · rename_i h1
    rw [Nat.mod_eq_sub_mod (by omega), Nat.mod_eq_of_lt (by omega)]
theorem ring_ne {st k m cap : Nat} (hs : st < cap) (hk : k < cap) (hm : m < cap) (h : k ≠ m) : (st + k) % cap ≠ (st + m) % cap := by
  rw [md2 (by omega), md2 (by omega)]
  split <;> split <;> omega
def FS (K N : Nat → Nat) (I : Nat → Nat → Int32) (R : Nat → Nat → Option Nat) (Er : Nat → Nat → Option Nat) (f r cap : Nat) (xs : List Nat) : Prop := K f = 7 + 1 ∧ K r = 20 + 5 ∧ R 35 f = some r ∧ N r = cap ∧ (1 ≤ cap ∧ cap ≤ 1000) ∧ ∃ st, I 36 f = nI st ∧ st < cap ∧ I 37 f = nI xs.length ∧ xs.length ≤ cap ∧ ∀ k x, xs[k]? = some x → Er r ((st + k) % cap) = some x ∧ K x = 6 + 1
def fI (f : Nat) (I I' : Nat → Nat → Int32) : Prop := ∀ g q, (q ≠ f ∨ (g ≠ 36 ∧ g ≠ 37)) → I' g q = I g q
def fE (r : Nat) (Er Er' : Nat → Nat → Option Nat) : Prop := ∀ q, q ≠ r → Er' q = Er q
variable {G : Gt} {K N : Nat → Nat} {I I' : Nat → Nat → Int32} {R R' : Nat → Nat → Option Nat} {L : Nat → Nat → Int64} {E : Nat → Nat → Int32} {El : Nat → Nat → Int64} {Er Er' : Nat → Nat → Option Nat} {f r cap : Nat} {xs : List Nat}
theorem fI_refl : fI f I I := fun _ _ _ => rfl
theorem fE_refl : fE r Er Er := fun _ _ => rfl
theorem fI.trans {I2 : Nat → Nat → Int32} (h : fI f I I') (h2 : fI f I' I2) : fI f I I2 := fun g q hq => (h2 g q hq).trans (h g q hq)
theorem fE.trans {E2 : Nat → Nat → Option Nat} (h : fE r Er Er') (h2 : fE r Er' E2) : fE r Er E2 := fun q hq => (h2 q hq).trans (h q hq)
theorem fI_u2 {g : Nat} {x : Int32} (hg : g = 36 ∨ g = 37) : fI f I (u2 I g f x) := by
  intro g2 q hq
  by_cases hqf : q = f
  · subst hqf
    rw [u2_ne _ _ (by omega)]
  · exact u2_q _ _ hqf
theorem DF_f (hD : DF K I R L E El Er) (hf : K f ≠ 0) (hr : K r ≠ 0) (h1 : fI f I I') (h2 : fE r Er Er') : DF K I' R L E El Er' := by
  intro q hq
  obtain ⟨a, b, c, d, e, g⟩ := hD q hq
  exact ⟨fun i => (h1 i q (Or.inl (dne hf hq))).trans (a i), b, c, d, e, fun i => by rw [h2 q (dne hr hq)]; exact g i⟩
/-- another ring is as it was -/
theorem FS.other {f2 r2 cap2 : Nat} {ys : List Nat} (h : FS K N I R Er f2 r2 cap2 ys) (hf : f2 ≠ f) (hr : r2 ≠ r) (h1 : fI f I I') (h2 : fE r Er Er') : FS K N I' R Er' f2 r2 cap2 ys := by
  obtain ⟨a, b, c, d, e, st, s1, s2, s3, s4, s5⟩ := h
  exact ⟨a, b, c, d, e, st, (h1 36 f2 (Or.inl hf)).trans s1, s2, (h1 37 f2 (Or.inl hf)).trans s3, s4, fun k x hx => ⟨by rw [h2 r2 hr]; exact (s5 k x hx).1, (s5 k x hx).2⟩⟩
/-- a ring does not see what else changes -/
theorem FS.keep {K' N' : Nat → Nat} (h : FS K N I R Er f r cap xs) (hK : ∀ q c, K q = c + 1 → K' q = c + 1) (hN : N' r = N r) (h1 : I' 36 f = I 36 f) (h2 : I' 37 f = I 37 f) (h3 : R' 35 f = R 35 f) (h4 : Er' r = Er r) : FS K' N' I' R' Er' f r cap xs := by
  obtain ⟨a, b, c, d, e, st, s1, s2, s3, s4, s5⟩ := h
  exact ⟨hK _ _ a, hK r 24 b, h3.trans c, hN.trans d, e, st, h1.trans s1, s2, h2.trans s3, s4, fun k x hx => ⟨by rw [h4]; exact (s5 k x hx).1, hK _ _ (s5 k x hx).2⟩⟩
def addL (cap : Nat) (xs : List Nat) (a : Nat) : List Nat := if xs.length = cap then xs else xs ++ [a]
theorem FS.add (h : FS K N I R Er f r cap xs) {a : Nat} (ha : K a = 6 + 1) : CallE G m_Frs_add 1 15 [.ref f, .ref a] (hN K N I R L E El Er) 0 0 none (fun h' => ∃ I' Er', h' = hN K N I' R L E El Er' ∧ fI f I I' ∧ fE r Er Er' ∧ FS K N I' R Er' f r cap (addL cap xs a)) := by
  obtain ⟨hf, hr, hR, hN, hcap, st, hst, hst2, hn, hn2, hel⟩ := h
  unfold addL
  by_cases hc : xs.length = cap
  · rw [if_pos hc]
    exact CallR.E (CallR.up (c_Frs_add0 hf hr hR hN hcap hst hst2 hn hn2 hc) (by decide) (by decide)) ⟨I, Er, rfl, fI_refl, fE_refl, hf, hr, hR, hN, hcap, st, hst, hst2, hn, hn2, hel⟩
  · rw [if_neg hc]
    refine CallR.E (c_Frs_add1 hf hr hR hN hcap hst hst2 hn hn2 ha (by omega)) ⟨_, _, rfl, fI_u2 (Or.inr rfl), fun q hq => u2r_ne _ _ hq, hf, hr, hR, hN, hcap, st, ?_, hst2, ?_, ?_, fun k x hx => ?_⟩
    · rw [u2_ne _ _ (by decide)]; exact hst
    · rw [u2_at, if_pos rfl, List.length_append]; rfl
    · rw [List.length_append, List.length_singleton]; omega
    · rw [u2r_at]
      by_cases hk : k = xs.length
      · subst hk
        simp at hx
        subst hx
        rw [if_pos rfl]
        exact ⟨rfl, ha⟩
      · have hlt : k < xs.length := by
          have := (List.getElem?_eq_some_iff.mp hx).1
          simp at this
          omega
        rw [List.getElem?_append_left hlt] at hx
        rw [if_neg (ring_ne hst2 (by omega) (by omega) hk)]
        exact hel k x hx
theorem FS.take0 (h : FS K N I R Er f r cap []) : CallR G m_Frs_takeFirst 2 28 [.ref f] (hN K N I R L E El Er) 0 0 (some .null) (hN K N I R L E El Er) := by
  obtain ⟨hf, hr, hR, hN, hcap, st, hst, hst2, hn, hn2, hel⟩ := h
  exact c_Frs_take0 hf hr hR hN hcap hst hst2 hn hn2 rfl
theorem FS.take {a : Nat} (h : FS K N I R Er f r cap (a :: xs)) : CallE G m_Frs_takeFirst 2 28 [.ref f] (hN K N I R L E El Er) 0 0 (some (.ref a)) (fun h' => ∃ I', h' = hN K N I' R L E El Er ∧ fI f I I' ∧ FS K N I' R Er f r cap xs) := by
  obtain ⟨hf, hr, hR, hN, hcap, st, hst, hst2, hn, hn2, hel⟩ := h
  refine CallR.E (c_Frs_take1 (a := a) hf hr hR hN hcap hst hst2 hn hn2 (Nat.succ_pos _) (hel 0 a rfl).1) ⟨_, rfl, (fI_u2 (Or.inl rfl)).trans (fI_u2 (Or.inr rfl)), hf, hr, hR, hN, hcap, (st + 1) % cap, ?_, Nat.mod_lt _ (by omega), ?_, ?_, fun k x hx => ?_⟩
  · rw [u2_ne _ _ (by decide), u2_at, if_pos rfl]
  · rw [u2_at, if_pos rfl]
    rfl
  · simp at hn2
    omega
  · rw [Nat.mod_add_mod, show st + 1 + k = st + (k + 1) by omega]
    exact hel (k + 1) x hx
theorem FS.dbl {a : Nat} (h : FS K N I R Er f r cap (a :: xs)) (hlt : xs.length + 1 < cap) : CallE G m_Frs_doubleFirst 2 28 [.ref f] (hN K N I R L E El Er) 0 0 (some (.int (bI true))) (fun h' => ∃ I' Er', h' = hN K N I' R L E El Er' ∧ fI f I I' ∧ fE r Er Er' ∧ FS K N I' R Er' f r cap (a :: a :: xs)) := by
  obtain ⟨hf, hr, hR, hN, hcap, st, hst, hst2, hn, hn2, hel⟩ := h
  have h0 := hel 0 a rfl
  refine CallR.E (c_Frs_dbl2 (a := a) hf hr hR hN hcap hst hst2 hn hn2 ⟨Nat.succ_pos _, by simp; omega⟩ h0.1 h0.2) ⟨_, _, rfl, (fI_u2 (Or.inl rfl)).trans (fI_u2 (Or.inr rfl)), fun q hq => u2r_ne _ _ hq, hf, hr, hR, hN, hcap, (st + (cap - 1)) % cap, ?_, Nat.mod_lt _ (by omega), ?_, ?_, fun k x hx => ?_⟩
  · rw [u2_ne _ _ (by decide), u2_at, if_pos rfl]
  · rw [u2_at, if_pos rfl]
    rfl
  · simp
    omega
  · rw [u2r_at]
    cases k with
    | zero =>
      simp at hx
      subst hx
      rw [if_pos (by rw [Nat.add_zero, Nat.mod_mod])]
      exact ⟨rfl, h0.2⟩
    | succ k =>
      have hk : k < xs.length + 1 := (List.getElem?_eq_some_iff.mp (show (a :: xs)[k]? = some x from hx)).1
      have e : ((st + (cap - 1)) % cap + (k + 1)) % cap = (st + k) % cap := by
        rw [Nat.mod_add_mod, show st + (cap - 1) + (k + 1) = st + k + cap by omega, Nat.add_mod_right]
      rw [e, if_neg (ring_ne hst2 (by omega) (by omega) (by omega))]
      exact hel k x hx
theorem FS.dbl0 (h : FS K N I R Er f r cap xs) (hx : xs = [] ∨ xs.length = cap) : CallR G m_Frs_doubleFirst 2 28 [.ref f] (hN K N I R L E El Er) 0 0 (some (.int (bI false))) (hN K N I R L E El Er) := by
  obtain ⟨hf, hr, hR, hN, hcap, st, hst, hst2, hn, hn2, hel⟩ := h
  rcases hx with rfl | hx
  · exact c_Frs_dbl0 hf hr hR hN hcap hst hst2 hn hn2 rfl
  · cases xs with
    | nil => simp at hx; omega
    | cons a xs => exact c_Frs_dbl1 (a := a) hf hr hR hN hcap hst hst2 hn hn2 hx (hel 0 a rfl).1
theorem FS.lose (h : FS K N I R Er f r cap xs) : CallE G m_Frs_loseAll 0 0 [.ref f] (hN K N I R L E El Er) 0 0 none (fun h' => ∃ I', h' = hN K N I' R L E El Er ∧ fI f I I' ∧ FS K N I' R Er f r cap []) := by
  obtain ⟨hf, hr, hR, hN, hcap, st, hst, hst2, hn, hn2, hel⟩ := h
  exact CallR.E (c_Frs_loseAll hf hr hR hN hcap hst hst2 hn hn2) ⟨_, rfl, (fI_u2 (Or.inl rfl)).trans (fI_u2 (Or.inr rfl)), hf, hr, hR, hN, hcap, 0, by rw [u2_ne _ _ (by decide), u2_at, if_pos rfl], by omega, by rw [u2_at, if_pos rfl]; rfl, Nat.zero_le _, fun k x hx => (by cases hx)⟩
theorem FS.full (h : FS K N I R Er f r cap xs) : CallR G m_Frs_isFull 0 0 [.ref f] (hN K N I R L E El Er) 0 0 (some (.int (bI (xs.length == cap)))) (hN K N I R L E El Er) := by
  obtain ⟨hf, hr, hR, hN, hcap, st, hst, hst2, hn, hn2, hel⟩ := h
  refine CallR.eq (c_Frs_isFull hf hr hR hN hcap hst hst2 hn hn2) ?_ rfl
  by_cases hc : xs.length = cap
  · rw [decide_eq_true (by omega), hc, beq_self_eq_true]
  · rw [decide_eq_false (by omega), beq_eq_false_iff_ne.mpr hc]
theorem FS.at (h : FS K N I R Er f r cap xs) {k x : Nat} (hx : xs[k]? = some x) : CallR G m_Frs_frameAt 1 15 [.ref f, .int (nI k)] (hN K N I R L E El Er) 0 0 (some (.ref x)) (hN K N I R L E El Er) := by
  obtain ⟨hf, hr, hR, hN, hcap, st, hst, hst2, hn, hn2, hel⟩ := h
  exact c_Frs_frameAt1 hf hr hR hN hcap hst hst2 hn hn2 (List.getElem?_eq_some_iff.mp hx).1 (hel k x hx).1
theorem FS.at0 (h : FS K N I R Er f r cap []) : CallR G m_Frs_frameAt 1 15 [.ref f, .int (nI 0)] (hN K N I R L E El Er) 0 0 (some .null) (hN K N I R L E El Er) := by
  obtain ⟨hf, hr, hR, hN, hcap, st, hst, hst2, hn, hn2, hel⟩ := h
  exact CallR.up (c_Frs_frameAt0 hf hr hR hN hcap hst hst2 hn hn2 (Nat.le_refl _) (by decide)) (by decide) (by decide)
/-! lists -/
def CLs (K : Nat → Nat) (I : Nat → Nat → Int32) (R : Nat → Nat → Option Nat) (ρ : Nat → Nat) (t l : Nat) (xs : List Nat) : Prop := K l = 3 + 1 ∧ R 18 l = xs.head? ∧ R 19 l = xs.getLast? ∧ I 20 l = nI xs.length ∧ xs.Nodup ∧ (∀ a ∈ xs, K a = 2 + 1 ∧ ρ a = t) ∧ ∀ i a, xs[i]? = some a → R 17 a = xs[i + 1]?
def lI (l : Nat) (I I' : Nat → Nat → Int32) : Prop := ∀ g q, (q ≠ l ∨ g ≠ 20) → I' g q = I g q
def lR (l : Nat) (xs : List Nat) (R R' : Nat → Nat → Option Nat) : Prop := ∀ g q, (q ≠ l ∨ (g ≠ 18 ∧ g ≠ 19)) → (g ≠ 17 ∨ q ∉ xs) → R' g q = R g q
variable {ρ : Nat → Nat} {t l : Nat}
theorem CLs.other {t2 l2 : Nat} {ys : List Nat} (h : CLs K I R ρ t2 l2 ys) (hl : l2 ≠ l) (ht : ∀ a ∈ xs, ρ a ≠ t2) (h1 : lI l I I') (h2 : lR l xs R R') : CLs K I' R' ρ t2 l2 ys := by
  obtain ⟨a, b, c, d, e, f, g⟩ := h
  refine ⟨a, (h2 18 l2 (Or.inl hl) (Or.inl (by decide))).trans b, (h2 19 l2 (Or.inl hl) (Or.inl (by decide))).trans c, (h1 20 l2 (Or.inl hl)).trans d, e, f, fun i x hx => ?_⟩
  have hx2 := List.mem_of_getElem? hx
  exact (h2 17 x (Or.inr ⟨by decide, by decide⟩) (Or.inr (fun q => ht x q (f x hx2).2))).trans (g i x hx)
theorem CLs.keep {K' : Nat → Nat} {ρ' : Nat → Nat} (h : CLs K I R ρ t l xs) (hK : ∀ q c, K q = c + 1 → K' q = c + 1) (h1 : I' 20 l = I 20 l) (h2 : R' 18 l = R 18 l) (h3 : R' 19 l = R 19 l) (h4 : ∀ a ∈ xs, R' 17 a = R 17 a ∧ ρ' a = ρ a) : CLs K' I' R' ρ' t l xs := by
  obtain ⟨a, b, c, d, e, f, g⟩ := h
  exact ⟨hK _ _ a, h2.trans b, h3.trans c, h1.trans d, e, fun x hx => ⟨hK _ _ (f x hx).1, (h4 x hx).2.trans (f x hx).2⟩, fun i x hx => ((h4 x (List.mem_of_getElem? hx)).1).trans (g i x hx)⟩
theorem CLs.add (h : CLs K I R ρ t l xs) {c : Nat} (hc : K c = 2 + 1) (hn : R 17 c = none) (hcx : c ∉ xs) (hrc : ρ c = t) : CallE G m_Lst_add 0 0 [.ref l, .ref c] (hN K N I R L E El Er) 0 0 none (fun h' => ∃ I' R', h' = hN K N I' R' L E El Er ∧ lI l I I' ∧ lR l xs R R' ∧ CLs K I' R' ρ t l (xs ++ [c])) := by
  obtain ⟨hl, hfi, hla, hnn, hnd, hmem, hnx⟩ := h
  have hnd2 : (xs ++ [c]).Nodup := by
    rw [List.nodup_append]
    refine ⟨hnd, by simp, fun a ha b hb q => ?_⟩
    rw [List.mem_singleton.mp hb] at q
    exact hcx (q ▸ ha)
  have hmem2 : ∀ a ∈ xs ++ [c], K a = 2 + 1 ∧ ρ a = t := by
    intro a ha
    rcases List.mem_append.mp ha with ha | ha
    · exact hmem a ha
    · rw [List.mem_singleton.mp ha]; exact ⟨hc, hrc⟩
  have hlc : ∀ a, K a = 2 + 1 → a ≠ l := fun a ha q => by rw [q, hl] at ha; cases ha
  rcases List.eq_nil_or_concat xs with rfl | ⟨ys, z, rfl⟩
  · refine CallR.E (c_Lst_add0 hl hc hla hnn) ⟨_, _, rfl, fun g q hq => ?_, fun g q h1 h2 => ?_, hl, ?_, ?_, ?_, hnd2, hmem2, fun i a ha => ?_⟩
    · by_cases hql : q = l
      · rw [u2_ne _ _ (by omega)]
      · exact u2_q _ _ hql
    · by_cases hql : q = l
      · rw [u2r_ne _ _ (by omega), u2r_ne _ _ (by omega)]
      · rw [u2r_q _ _ hql, u2r_q _ _ hql]
    · rw [u2r_ne _ _ (by decide), u2r_at, if_pos rfl]; rfl
    · rw [u2r_at, if_pos rfl]; rfl
    · rw [u2_at, if_pos rfl]; rfl
    · have hi : i = 0 := by have := (List.getElem?_eq_some_iff.mp ha).1; simp at this; exact this
      subst hi
      simp at ha
      subst ha
      rw [u2r_ne _ _ (by decide), u2r_ne _ _ (by decide), hn]
      rfl
  · have hz : R 19 l = some z := by rw [hla]; simp
    have hzm := hmem z (by simp)
    have hzc : z ≠ c := fun q => hcx (by rw [← q]; simp)
    refine CallR.E (c_Lst_add1 hl hc hzm.1 hz hnn) ⟨_, _, rfl, fun g q hq => ?_, fun g q h1 h2 => ?_, hl, ?_, ?_, ?_, hnd2, hmem2, fun i a ha => ?_⟩
    · by_cases hql : q = l
      · rw [u2_ne _ _ (by omega)]
      · exact u2_q _ _ hql
    · have e1 : u2r (u2r R 17 z (some c)) 19 l (some c) g q = u2r R 17 z (some c) g q := by
        by_cases hql : q = l
        · rw [u2r_ne _ _ (by omega)]
        · exact u2r_q _ _ hql
      rw [e1]
      rcases h2 with h2 | h2
      · rw [u2r_ne _ _ h2]
      · exact u2r_q _ _ (fun q2 => h2 (by rw [q2]; simp))
    · rw [u2r_ne _ _ (by decide), u2r_ne _ _ (by decide), hfi]
      cases ys <;> rfl
    · rw [u2r_at, if_pos rfl]
      simp
    · rw [u2_at, if_pos rfl]
      simp
    · rw [u2r_ne _ _ (by decide), u2r_at]
      by_cases haz : a = z
      · subst haz
        rw [if_pos rfl]
        have hi : i = ys.length := by
          have h5 : (ys.concat a ++ [c])[ys.length]? = some a := by simp
          have hlt := (List.getElem?_eq_some_iff.mp ha).1
          exact (List.getElem?_inj hlt hnd2).mp (ha.trans h5.symm)
        subst hi
        simp
      · rw [if_neg haz]
        by_cases hi : i < (ys.concat z).length
        · rw [List.getElem?_append_left hi] at ha
          have h6 := hnx i a ha
          rw [h6]
          have hi2 : i + 1 < (ys.concat z).length := by
            rcases Nat.lt_or_ge (i + 1) (ys.concat z).length with h7 | h7
            · exact h7
            · exfalso
              have hi3 : i = ys.length := by simp at hi h7; omega
              rw [hi3] at ha
              simp at ha
              exact haz ha.symm
          rw [List.getElem?_append_left hi2]
        · have hlt := (List.getElem?_eq_some_iff.mp ha).1
          have hi3 : i = (ys.concat z).length := by rw [List.length_append] at hlt; simp at hlt hi ⊢; omega
          rw [hi3] at ha ⊢
          simp at ha
          subst ha
          rw [hn]
          simp
theorem CLs.take0 (h : CLs K I R ρ t l []) : CallR G m_Lst_takeFirst 0 0 [.ref l] (hN K N I R L E El Er) 0 0 (some .null) (hN K N I R L E El Er) := c_Lst_take0 h.1 h.2.1
theorem CLs.take {a : Nat} (h : CLs K I R ρ t l (a :: xs)) : CallE G m_Lst_takeFirst 0 0 [.ref l] (hN K N I R L E El Er) 0 0 (some (.ref a)) (fun h' => ∃ I' R', h' = hN K N I' R' L E El Er ∧ lI l I I' ∧ lR l (a :: xs) R R' ∧ CLs K I' R' ρ t l xs) := by
  obtain ⟨hl, hfi, hla, hnn, hnd, hmem, hnx⟩ := h
  have hal := hmem a List.mem_cons_self
  have hnal : a ≠ l := fun q => by rw [q, hl] at hal; exact absurd hal.1 (by decide)
  have hax : a ∉ xs := (List.nodup_cons.mp hnd).1
  have h0 := hnx 0 a rfl
  have hlI : ∀ n, lI l I (u2 I 20 l (nI n)) := fun n g q hq => by
    by_cases hql : q = l
    · rw [u2_ne _ _ (by omega)]
    · exact u2_q _ _ hql
  cases xs with
  | nil =>
    refine CallR.E (c_Lst_take2 (a := a) hl hal.1 hfi h0 hnn (Nat.succ_pos _)) ⟨_, _, rfl, hlI _, fun g q h1 h2 => ?_, hl, ?_, ?_, ?_, List.nodup_nil, fun x hx => (by cases hx), fun i x hx => (by cases hx)⟩
    · have e1 : u2r (u2r (u2r R 18 l none) 19 l none) 17 a none g q = u2r (u2r R 18 l none) 19 l none g q := by
        rcases h2 with h2 | h2
        · rw [u2r_ne _ _ h2]
        · exact u2r_q _ _ (fun q2 => h2 (by rw [q2]; simp))
      rw [e1]
      by_cases hql : q = l
      · rw [u2r_ne _ _ (by omega), u2r_ne _ _ (by omega)]
      · rw [u2r_q _ _ hql, u2r_q _ _ hql]
    · rw [u2r_ne _ _ (by decide), u2r_ne _ _ (by decide), u2r_at, if_pos rfl]; rfl
    · rw [u2r_ne _ _ (by decide), u2r_at, if_pos rfl]; rfl
    · rw [u2_at, if_pos rfl]; rfl
  | cons b xs =>
    refine CallR.E (c_Lst_take1 (a := a) (b := b) hl hal.1 hfi h0 hnn (Nat.succ_pos _)) ⟨_, _, rfl, hlI _, fun g q h1 h2 => ?_, hl, ?_, ?_, ?_, (List.nodup_cons.mp hnd).2, fun x hx => hmem x (List.mem_cons_of_mem _ hx), fun i x hx => ?_⟩
    · have e1 : u2r (u2r R 18 l (some b)) 17 a none g q = u2r R 18 l (some b) g q := by
        rcases h2 with h2 | h2
        · rw [u2r_ne _ _ h2]
        · exact u2r_q _ _ (fun q2 => h2 (by rw [q2]; simp))
      rw [e1]
      by_cases hql : q = l
      · rw [u2r_ne _ _ (by omega)]
      · rw [u2r_q _ _ hql]
    · rw [u2r_ne _ _ (by decide), u2r_at, if_pos rfl]; rfl
    · rw [u2r_ne _ _ (by decide), u2r_ne _ _ (by decide), hla]
      simp
    · rw [u2_at, if_pos rfl]; rfl
    · have hxa : x ≠ a := fun q => hax (by rw [← q]; exact List.mem_of_getElem? hx)
      rw [u2r_at, if_neg hxa, u2r_ne _ _ (by decide)]
      exact hnx (i + 1) x hx
end Ring
