section Inv3
theorem okCh_b {s : Sa} {n c : Nat} {d : Ch} (hn : n ≤ 512) (hms : (sMs s).length ≤ 200) (h7 : ∀ m, cntOf s m ≤ 7) (h : okCh s n c d) : bCh d := by
  obtain ⟨h1, h2, h3, h4, h5, h6, h7', h8, _⟩ := h
  refine ⟨h1, h2, by omega, fun x hx => ?_, ⟨h5, by omega⟩, h7', h8⟩
  obtain ⟨⟨q1, q2, q3⟩, _⟩ := h4 x hx
  exact ⟨⟨q1, by omega⟩, Nat.lt_of_lt_of_le q3 (Nat.pow_le_pow_right (n := 2) (by decide) (h7 x.1))⟩
theorem ch1_B {n c : Nat} {s : Sa} {d : Ch} (h : InvB n s) (hd : okCh s n c d) : InvB n (ch1 s c d) := by
  obtain ⟨hn, h1, i1, i2, i3, i4, i5⟩ := h
  refine ⟨hn, h1, i1, i2, i3, fun i => ?_, i5⟩
  show okCh s n i (va_up (sCh s) c d i)
  unfold va_up
  by_cases hi : i = c
  · rw [if_pos hi, hi]; exact hd
  · rw [if_neg hi]; exact i4 i
theorem ch1_phi {s : Sa} {c : Nat} {d : Ch} (hc : c < 16) : phi (ch1 s c d) + phi1 (sCh s c) = phi s + phi1 d := by
  have e : sumN 16 (fun i => phi1 (va_up (sCh s) c d i)) = sumN 16 (va_up (fun i => phi1 (sCh s i)) c (phi1 d)) := sumN_congr (fun i _ => by
    unfold va_up
    by_cases hi : i = c
    · rw [if_pos hi, if_pos hi]
    · rw [if_neg hi, if_neg hi])
  have h := sumN_up (f := fun i => phi1 (sCh s i)) (v := phi1 d) hc
  unfold phi
  show phiCp (sCp s) + sumN 16 (fun i => phi1 (va_up (sCh s) c d i)) + sumN 6 (sUn s) + sumN 6 (sDb s) + sumN 201 (fun m => pc7 (sCm s m)) + _ = _
  rw [e]
  omega
theorem ch1_at (s : Sa) (c : Nat) (d : Ch) : sCh (ch1 s c d) c = d := by
  show va_up (sCh s) c d c = d
  simp [va_up]
theorem ch1_ne {s : Sa} {c i : Nat} {d : Ch} (h : i ≠ c) : sCh (ch1 s c d) i = sCh s i := by
  show va_up (sCh s) c d i = _
  simp [va_up, h]
theorem ch1_Inv {n c : Nat} {s : Sa} {d : Ch} (h : Inv n s) (hc : c < 16) (hd : okCh s n c d) (hp : phi1 d ≤ phi1 (sCh s c)) : Inv n (ch1 s c d) := by
  have hB := ch1_B h.B hd
  have he := ch1_phi (s := s) (d := d) hc
  have h0 := h.2.2.2
  refine ⟨hB.1, hB.2.1, hB.2.2, ?_⟩
  show _ ≤ 7 * (sMs s).length
  omega
theorem okCh_wire {s : Sa} {n c : Nat} {d : Ch} {w : List (Nat × Nat)} (h : okCh s n c d) (hw : ∀ f ∈ w, f ∈ cWire d) (hl : w.length ≤ 200) (hs : sLn s (c / 2) ≠ none) : okCh s n c (wWire d w) := by
  obtain ⟨q1, q2, q3, q4, q5, q6, q7, q8, q9, q10, q11, q12⟩ := h
  refine ⟨q1, q2, q3, q4, q5, q6, hl, fun f hf => q8 f (hw f hf), q9, q10, fun q => ?_, fun q => absurd q hs⟩
  have := q11 q
  cases w with
  | nil => rfl
  | cons f w =>
    have := hw f List.mem_cons_self
    rw [q11 q] at this
    cases this
theorem okCh_lay {s : Sa} {n c : Nat} {d : Ch} {f : Nat × Nat} (h : okCh s n c d) (hf : f.1 < 3 ∧ 1 ≤ f.2 ∧ f.2 ≤ 999 ∧ (f.1 = 0 → f.2 ≤ (cSent d).length)) (hs : serves s (c / 2) = true) : okCh s n c (layC d f) := by
  obtain ⟨q1, q2, q3, q4, q5, q6, q7, q8, q9, q10, q11, q12⟩ := h
  unfold layC
  split
  · exact ⟨q1, q2, q3, q4, q5, q6, q7, q8, q9, q10, q11, q12⟩
  · rename_i hn
    refine ⟨q1, q2, q3, q4, q5, q6, ?_, fun g hg => ?_, q9, q10, fun q => ?_, fun q => ?_⟩
    · show (cWire d ++ [f]).length ≤ 200
      rw [List.length_append, List.length_singleton]
      omega
    · rcases List.mem_append.mp hg with hg | hg
      · exact q8 g hg
      · rw [List.mem_singleton.mp hg]; exact hf
    · rw [hs] at q; cases q
    · have := serves_isSome hs
      rw [q] at this
      cases this
theorem phi1_lay (d : Ch) (f : Nat × Nat) : phi1 (layC d f) = phi1 d := by
  unfold phi1
  rw [(layC_sent d f).1, (layC_sent d f).2.2.1]
theorem okCh_put {s : Sa} {n c : Nat} {d : Ch} (h : okCh s n c d) : okCh s n c (cSent d, cKept d, cExp d, cWire d, sMin s, cAsk d) ∨ sLn s (c / 2) = none := by
  obtain ⟨q1, q2, q3, q4, q5, q6, q7, q8, q9, q10, q11, q12⟩ := h
  cases hl : sLn s (c / 2) with
  | none => exact Or.inr rfl
  | some r => exact Or.inl ⟨q1, q2, q3, q4, q5, q6, q7, q8, Nat.le_refl _, q10, q11, fun q => (by rw [hl] at q; cases q)⟩
theorem okCh_layK {s : Sa} {n c k : Nat} {d : Ch} (h : okCh s n c d) (hn : n ≤ 512) (hk : k < cKept d) (hs : serves s (c / 2) = true) : okCh s n c (layKeptC d k (sMin s)) := by
  have h2 := h.2.1
  have h3 := h.2.2.1
  have h1 := okCh_lay (f := (0, (cSent d).length - cKept d + k + 1)) h ⟨by show (0 : Nat) < 3; omega, by show 1 ≤ _ + 1; omega, by show (cSent d).length - cKept d + k + 1 ≤ 999; omega, fun _ => by show (cSent d).length - cKept d + k + 1 ≤ _; omega⟩ hs
  rcases okCh_put h1 with h4 | h4
  · exact h4
  · have := serves_isSome hs
    rw [h4] at this
    cases this
theorem phi1_layK (d : Ch) (k mi : Nat) : phi1 (layKeptC d k mi) = phi1 d := by
  unfold phi1
  rw [(layKeptC_sent d k mi).1, (layKeptC_sent d k mi).2.2.1]
/-- the expected frame is taken: the state before its copy comes -/
def accS (s : Sa) (j k serial : Nat) : Sa := let s1 := ch1 s j (wExp (sCh s j) (cExp (sCh s j) % 999 + 1))
  ch1 s1 k (layC (sCh s1 k) (1, serial))
theorem acc_at {s : Sa} {n j serial : Nat} (hV : Inv n s) (hse : 1 ≤ serial ∧ serial ≤ (cSent (sCh s j)).length) (ha : (serial + 999 - cExp (sCh s j)) % 999 = 0) : serial = cExp (sCh s j) := by
  have hb := hV.bCh j
  have h1 := hb.2.2.1
  have h2 := hb.2.2.2.2.1
  omega
theorem phi1_acc {d : Ch} (h1 : 1 ≤ cExp d) (h2 : cExp d ≤ (cSent d).length) : phi1 (wExp d (cExp d + 1)) + pc7 ((cSent d).getD (cExp d - 1) (0, 0)).2 = phi1 d := by
  unfold phi1
  show (((cSent d).drop (cExp d + 1 - 1)).map fun x => pc7 x.2).sum + _ = _
  have hlt : cExp d - 1 < (cSent d).length := by omega
  rw [List.drop_eq_getElem_cons (i := cExp d - 1) hlt, List.map_cons, List.sum_cons, List.getD_eq_getElem?_getD, List.getElem?_eq_getElem hlt, show cExp d - 1 + 1 = cExp d + 1 - 1 by omega]
  show _ + pc7 (cSent d)[cExp d - 1].2 = _
  omega
theorem acc_B {n : Nat} {s : Sa} {j k serial : Nat} (hV : Inv n s) (hj : j < 16) (hk : k < 16) (hjk : k ≠ j) (hsv : serves s (j / 2) = true) (hsk : serves s (k / 2) = true) (hse : 1 ≤ serial ∧ serial ≤ (cSent (sCh s j)).length) (ha : (serial + 999 - cExp (sCh s j)) % 999 = 0) : InvB n (accS s j k serial) ∧ phi (accS s j k serial) + pc7 ((cSent (sCh s j)).getD (serial - 1) (0, 0)).2 = phi s := by
  have hat := acc_at hV hse ha
  have hb := hV.bCh j
  have hexp : cExp (sCh s j) % 999 + 1 = cExp (sCh s j) + 1 := by have := hb.2.2.2.2.1; omega
  have hok := hV.2.2.1.2.2.2.1 j
  have hok1 : okCh s n j (wExp (sCh s j) (cExp (sCh s j) + 1)) := by
    obtain ⟨q1, q2, q3, q4, q5, q6, q7, q8, q9, q10, q11, q12⟩ := hok
    refine ⟨q1, q2, q3, q4, by show 1 ≤ _ + 1; omega, by show cExp (sCh s j) + 1 ≤ (cSent (sCh s j)).length + 1; omega, q7, q8, q9, q10, q11, fun q => ?_⟩
    have := serves_isSome hsv
    rw [q] at this
    cases this
  have hB1 := ch1_B hV.B hok1
  have hp1 := ch1_phi (s := s) (d := wExp (sCh s j) (cExp (sCh s j) + 1)) hj
  have hacc := phi1_acc (d := sCh s j) (by omega) (by omega)
  have hlen : serial ≤ 999 := by have := hb.2.2.1; omega
  have hok2 : okCh (ch1 s j (wExp (sCh s j) (cExp (sCh s j) + 1))) n k (layC (sCh (ch1 s j (wExp (sCh s j) (cExp (sCh s j) + 1))) k) (1, serial)) :=
    okCh_lay (hB1.2.2.2.2.2.1 k) ⟨by show (1 : Nat) < 3; omega, hse.1, hlen, fun q => absurd q (by show ¬ (1 : Nat) = 0; omega)⟩ hsk
  have hB2 := ch1_B hB1 hok2
  have hp2 := ch1_phi (s := ch1 s j (wExp (sCh s j) (cExp (sCh s j) + 1))) (d := layC (sCh (ch1 s j (wExp (sCh s j) (cExp (sCh s j) + 1))) k) (1, serial)) hk
  rw [phi1_lay] at hp2
  have e : accS s j k serial = ch1 (ch1 s j (wExp (sCh s j) (cExp (sCh s j) + 1))) k (layC (sCh (ch1 s j (wExp (sCh s j) (cExp (sCh s j) + 1))) k) (1, serial)) := by
    unfold accS
    rw [hexp]
  rw [e]
  refine ⟨hB2, ?_⟩
  rw [show serial - 1 = cExp (sCh s j) - 1 by omega]
  omega
theorem sent_get {d : Ch} {serial : Nat} (h : 1 ≤ serial ∧ serial ≤ (cSent d).length) : (cSent d).getD (serial - 1) (0, 0) ∈ cSent d := by
  have hlt : serial - 1 < (cSent d).length := by omega
  rw [List.getD_eq_getElem?_getD, List.getElem?_eq_getElem hlt]
  exact List.getElem_mem hlt
theorem acc_Inv {n : Nat} {s : Sa} {j k serial e by1 : Nat} (hV : Inv n s) (hj : j < 16) (hk : k < 16) (hjk : k ≠ j) (hsv : serves s (j / 2) = true) (hsk : serves s (k / 2) = true) (hse : 1 ≤ serial ∧ serial ≤ (cSent (sCh s j)).length) (ha : (serial + 999 - cExp (sCh s j)) % 999 = 0) (he : e < 6) (hby : by1 ≤ 8) : Inv n (comesS (accS s j k serial) e ((cSent (sCh s j)).getD (serial - 1) (0, 0)).1 ((cSent (sCh s j)).getD (serial - 1) (0, 0)).2 by1) := by
  obtain ⟨hB, hp⟩ := acc_B hV hj hk hjk hsv hsk hse ha
  have hm := (hV.2.2.1.2.2.2.1 j).2.2.2.1 _ (sent_get hse)
  have hm2 : 1 ≤ ((cSent (sCh s j)).getD (serial - 1) (0, 0)).1 ∧ ((cSent (sCh s j)).getD (serial - 1) (0, 0)).1 ≤ (sMs (accS s j k serial)).length := ⟨hm.1.1, hm.1.2.1⟩
  have hB2 := comesS_B (set := ((cSent (sCh s j)).getD (serial - 1) (0, 0)).2) hB he hm2 hby
  have hp2 := comesS_phi (set := ((cSent (sCh s j)).getD (serial - 1) (0, 0)).2) (by1 := by1) hB he hm2
  have hsm := comesS_same (x := e) (set := ((cSent (sCh s j)).getD (serial - 1) (0, 0)).2) (by1 := by1) hB.CI hm2
  have h0 := hV.2.2.2
  refine ⟨hB2.1, hB2.2.1, hB2.2.2, ?_⟩
  rw [hsm.2.2.1]
  show _ ≤ 7 * (sMs s).length
  omega
end Inv3
