section FrameRule
def hor (h f : AHp) : AHp := fun q => match h q with
  | some o => some o
  | none => f q
def Dj (h f : AHp) : Prop := ∀ q, h q ≠ none → f q = none
theorem hor_l {h f : AHp} {q : Nat} {o : AObj} (hq : h q = some o) : hor h f q = some o := by simp [hor, hq]
theorem hor_r {h f : AHp} {q : Nat} (hq : h q = none) : hor h f q = f q := by simp [hor, hq]
theorem hor_dom {h f : AHp} {q : Nat} (hq : hor h f q ≠ none) : h q ≠ none ∨ f q ≠ none := by
  cases hc : h q with
  | none => exact Or.inr (by rw [hor_r hc] at hq; exact hq)
  | some o => exact Or.inl (by simp)
theorem CallS.frame {G : Gt} {y : Mi} {d w : Nat} {av : List Value} {h f : AHp} {k n : Nat} {Q : ARes → AHp → Prop} (hc : CallS G y d w av h k n Q) (hD : Dj h f) : CallS G y d w av (hor h f) k n (fun r h' => ∃ h1, Q r h1 ∧ h' = hor h1 f ∧ Dj h1 f) := by
  intro p e R s m args below meth c hF hAW hLo T hT X
  have hAW1 : AW (GD G) (GA G) h s.heap := fun a o ha => hAW a o (hor_l ha)
  have hLo1 : Lo (Gs G).heap.size h := fun a ha => hLo a (by
    cases hq : h a with
    | none => exact absurd hq ha
    | some o => rw [hor_l hq]; simp)
  have hf0 : ∀ q o, f q = some o → h q = none := fun q o hq => by
    cases hc : h q with
    | none => rfl
    | some o2 =>
      have := hD q (by rw [hc]; simp)
      rw [hq] at this
      cases this
  have hfl : ∀ q o, f q = some o → q < s.heap.size := fun q o hq => (hAW q o (by rw [hor_r (hf0 q o hq)]; exact hq)).lt
  obtain ⟨t, s1, o, h1, h2, ⟨⟨r, h', ho, hQ, w1, w2, w3⟩, hFr⟩, L, hh, hL⟩ := hc p e R s m args below meth c hF hAW1 hLo1 T hT X
  have w3 : ∀ a, h' a ≠ none → AA h s.heap.size a := w3
  have hFr : va_F (AA h s.heap.size) s t := hFr
  have hup1 : ∀ q, AA h s.heap.size q → AA (hor h f) s.heap.size q := fun q hq => by
    rcases hq with hq | hq
    · refine Or.inl ?_
      cases hc : h q with
      | none => exact absurd hc hq
      | some o => rw [hor_l hc]; simp
    · exact Or.inr hq
  have hdj : Dj h' f := fun q hq => by
    cases hc : f q with
    | none => rfl
    | some o =>
      rcases w3 q hq with h9 | h9
      · exact absurd (hf0 q o hc) h9
      · exact absurd (hfl q o hc) (Nat.not_lt.mpr h9)
  refine ⟨t, s1, o, h1, h2, ⟨⟨r, hor h' f, ho, ⟨h', hQ, rfl, hdj⟩, ?_, ?_, ?_⟩, ?_⟩, L, hh, fun q hq => hup1 _ (hL q hq)⟩
  · intro a o ha
    cases hc : h' a with
    | some o2 =>
      rw [hor_l hc] at ha
      cases ha
      exact w1 a _ hc
    | none =>
      rw [hor_r hc] at ha
      have h9 : hor h f a = some o := by rw [hor_r (hf0 a o ha)]; exact ha
      refine (hAW a o h9).kept (hFr.2 a (hfl a o ha) ?_)
      intro h10
      rcases h10 with h10 | h10
      · exact h10 (hf0 a o ha)
      · exact absurd (hfl a o ha) (Nat.not_lt.mpr h10)
  · intro a ha
    rcases hor_dom ha with ha | ha
    · exact w2 a ha
    · refine hLo a ?_
      cases hc : f a with
      | none => exact absurd hc ha
      | some o => rw [hor_r (hf0 a o hc), hc]; simp
  · intro a ha
    rcases hor_dom ha with ha | ha
    · exact hup1 a (w3 a ha)
    · refine Or.inl ?_
      cases hc : f a with
      | none => exact absurd hc ha
      | some o =>
        show hor h f a ≠ none
        rw [hor_r (hf0 a o hc), hc]; simp
  · exact ⟨hFr.1, fun q h8 h9 => hFr.2 q h8 (fun h10 => h9 (hup1 q h10))⟩
end FrameRule
section CallR
/-- the call returns v and leaves the world h1 -/
def CallR (G : Gt) (y : Mi) (d w : Nat) (av : List Value) (h : AHp) (k n : Nat) (v : Option Value) (h1 : AHp) : Prop := CallS G y d w av h k n (fun r h' => r = .inl v ∧ h' = h1)
variable {G : Gt} {y y' : Mi} {B : Bt} {pc : Nat} {rest av : List Value} {h h1 : AHp} {lv : List (Nat × Value)} {st : List Value} {k n : Nat}
theorem wp_callR {d' w' r k' n' na : Nat} {ig : Instr} {v : Option Value} (hd : decode (mB y) pc = .ok (ig, 3)) (hL : Link G y B pc st rest av y' h) (hc : mCal y' na) (hC : CallR G y' d' w' av h k' n' v h1) (hr8 : (rest.map fun v => v.category).sum ≤ r) (hdep : d' + 1 ≤ Bd B ∧ r + (mL y' + 11) + w' ≤ Bw B)
    (kr : WP G y B (pc + 3) lv (v.toList ++ rest) h1 k n) : WP G y B pc lv st h (k + k') (n + n') := by
  refine wp_call hd hL hc hC hr8 hdep (fun v' h' hq => ?_) (fun x h' hq => ?_)
  · obtain ⟨h2, rfl⟩ := hq
    cases h2
    exact kr
  · cases hq.1
end CallR
