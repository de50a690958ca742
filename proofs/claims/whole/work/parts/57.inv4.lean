/-! every call keeps what holds of every state -/
section Inv4
theorem okCh_mono {s : Sa} {n c : Nat} {d : Ch} (h : okCh s n c d) : okCh s (n + 1) c d := by
  obtain ⟨q1, q2, q3, q4, q5⟩ := h
  exact ⟨q1, q2, by omega, q4, q5⟩
theorem Inv_mono {n : Nat} {s : Sa} (h : Inv n s) (hn : n < 512) : Inv (n + 1) s := by
  obtain ⟨_, ⟨k1, k2, k3⟩, ⟨i1, i2, i3, i4, i5⟩, hp⟩ := h
  exact ⟨by omega, ⟨by omega, by omega, k3⟩, ⟨i1, i2, i3, fun c => okCh_mono (i4 c), i5⟩, hp⟩
theorem deg_sum (s : Sa) (x : Nat) : degree s x = sumN 8 (fun l => if atSw s l x then 1 else 0) := filter_sum _ _
theorem line_Inv {n : Nat} {s : Sa} {l a b : Nat} (h : Inv n s) (hl : l < 8) (ha : a < 6) (hb : b < 6) (hab : a ≠ b) (hno : sLn s l = none) (da : degree s a ≠ 4) (db : degree s b ≠ 4) : Inv n (wLn s (va_up (sLn s) l (some (a, b, true)))) := by
  obtain ⟨hn, ⟨k1, k2, k3, k4, k5, k6, k7, k8⟩, ⟨i1, i2, i3, i4, i5⟩, hp⟩ := h
  have hLn : ∀ i, sLn (wLn s (va_up (sLn s) l (some (a, b, true)))) i = if i = l then some (a, b, true) else sLn s i := fun i => rfl
  have hat : ∀ i x, i ≠ l → atSw (wLn s (va_up (sLn s) l (some (a, b, true)))) i x = atSw s i x := by
    intro i x hi
    unfold atSw
    rw [hLn, if_neg hi]
  have hatl : ∀ x, atSw (wLn s (va_up (sLn s) l (some (a, b, true)))) l x = (a == x || b == x) := by
    intro x
    unfold atSw
    rw [hLn, if_pos rfl]
  have hat0 : ∀ x, atSw s l x = false := by
    intro x
    unfold atSw
    rw [hno]
  have hdeg : ∀ x, degree (wLn s (va_up (sLn s) l (some (a, b, true)))) x = degree s x + (if (a == x || b == x) = true then 1 else 0) := by
    intro x
    rw [deg_sum, deg_sum]
    have e : sumN 8 (fun i => if atSw (wLn s (va_up (sLn s) l (some (a, b, true)))) i x then 1 else 0) = sumN 8 (va_up (fun i => if atSw s i x then 1 else 0) l (if (a == x || b == x) = true then 1 else 0)) := sumN_congr (fun i _ => by
      by_cases hi : i = l
      · rw [hi, hatl]
        show _ = if l = l then _ else _
        rw [if_pos rfl]
      · rw [hat i x hi]
        show _ = if i = l then _ else _
        rw [if_neg hi])
    have h2 := sumN_up (f := fun i => if atSw s i x then 1 else 0) (v := if (a == x || b == x) = true then 1 else 0) hl
    rw [e]
    simp only [hat0] at h2
    simpa using h2
  have hsome : ∀ i, (sLn s i).isSome = true → (sLn (wLn s (va_up (sLn s) l (some (a, b, true)))) i).isSome = true := by
    intro i hi
    rw [hLn]
    by_cases hil : i = l
    · rw [if_pos hil]; rfl
    · rw [if_neg hil]; exact hi
  refine ⟨hn, ⟨k1, k2, k3, fun i a1 b1 v1 q => ?_, fun x => ?_, fun x => ⟨(k6 x).1, fun e he => ?_⟩, k7, k8⟩, ⟨i1, i2, fun c hc => ?_, fun c => ?_, i5⟩, hp⟩
  · rw [hLn] at q
    by_cases hi : i = l
    · rw [if_pos hi] at q
      cases q
      exact ⟨by omega, ha, hb, hab⟩
    · rw [if_neg hi] at q
      exact k4 i a1 b1 v1 q
  · rw [hdeg]
    have h5 := k5 x
    by_cases hx : (a == x || b == x) = true
    · rw [if_pos hx]
      simp at hx
      rcases hx with rfl | rfl <;> omega
    · rw [if_neg hx]
      omega
  · have h9 : ∀ j, atSw s j x = true → atSw (wLn s (va_up (sLn s) l (some (a, b, true)))) j x = true := by
      intro j hj
      by_cases hjl : j = l
      · rw [hjl, hat0] at hj; cases hj
      · rw [hat j x hjl]; exact hj
    obtain ⟨q1, q2, q3, q4, q5⟩ := (k6 x).2 e he
    exact ⟨q1, q2, q3, fun j hj => ⟨(q4 j hj).1, h9 j (q4 j hj).2⟩, fun j hj => ⟨(q5 j hj).1, h9 j (q5 j hj).2⟩⟩
  · obtain ⟨q1, q2, q3, q4, q5⟩ := i3 c hc
    exact ⟨q1, fun q => hsome _ (q2 q), q3, q4, q5⟩
  · obtain ⟨q1, q2, q3, q4, q5, q6, q7, q8, q9, q10, q11, q12⟩ := i4 c
    refine ⟨q1, q2, q3, q4, q5, q6, q7, q8, q9, q10, fun q => q11 ?_, fun q => q12 ?_⟩
    · unfold serves at q ⊢
      rw [hLn] at q
      by_cases hc : c / 2 = l
      · rw [if_pos hc] at q; cases q
      · rw [if_neg hc] at q; exact q
    · rw [hLn] at q
      by_cases hc : c / 2 = l
      · rw [if_pos hc] at q; cases q
      · rw [if_neg hc] at q; exact q
theorem route_Inv {n : Nat} {s : Sa} {x : Nat} {e : RtE} (h : Inv n s) (hl : (sRt s x).length < 16) (he : okRt s x e) : Inv n (wRt s (va_up (sRt s) x (sRt s x ++ [e]))) := by
  obtain ⟨hn, ⟨k1, k2, k3, k4, k5, k6, k7, k8⟩, i, hp⟩ := h
  refine ⟨hn, ⟨k1, k2, k3, k4, k5, fun y => ?_, k7, k8⟩, i, hp⟩
  show (va_up (sRt s) x (sRt s x ++ [e]) y).length ≤ 16 ∧ ∀ f ∈ va_up (sRt s) x (sRt s x ++ [e]) y, okRt s y f
  unfold va_up
  by_cases hy : y = x
  · rw [if_pos hy, hy]
    refine ⟨by rw [List.length_append, List.length_singleton]; omega, fun f hf => ?_⟩
    rcases List.mem_append.mp hf with hf | hf
    · exact (k6 x).2 f hf
    · rw [List.mem_singleton.mp hf]; exact he
  · rw [if_neg hy]
    exact k6 y
theorem put_Inv {n : Nat} {s : Sa} {i : Nat} {v : Int32} (h : Inv n s) (hn : n < 512) (hi : i < 1600) : Inv (n + 1) (wLog s ((i, v) :: sLog s)) := by
  obtain ⟨_, ⟨k1, k2, k3, k4, k5, k6, k7, k8⟩, i, hp⟩ := Inv_mono h hn
  obtain ⟨_, ⟨_, k2', _⟩, _⟩ := h
  refine ⟨by omega, ⟨k1, ?_, ?_, k4, k5, k6, k7, ?_⟩, i, hp⟩
  · show ((_, v) :: sLog s).length ≤ n + 1
    rw [List.length_cons]
    omega
  · intro p hp'
    rcases List.mem_cons.mp hp' with hp' | hp'
    · rw [hp']; exact hi
    · exact k3 p hp'
  · intro m hm
    obtain ⟨q1, q2, q3, q4, q5, q6⟩ := k8 m hm
    refine ⟨q1, q2, q3, q4, q5, ?_⟩
    show _ ≤ ((_, v) :: sLog s).length
    rw [List.length_cons]
    omega
theorem chF_Inv {n : Nat} {s : Sa} {f : Nat → Ch} (h : Inv n s) (hf : ∀ c, okCh s n c (f c)) (hp : ∀ c, phi1 (f c) = phi1 (sCh s c)) : Inv n (wCh s f) := by
  obtain ⟨hn, k, ⟨i1, i2, i3, i4, i5⟩, h0⟩ := h
  refine ⟨hn, k, ⟨i1, i2, i3, hf, i5⟩, ?_⟩
  unfold phi at h0 ⊢
  show phiCp (sCp s) + sumN 16 (fun c => phi1 (f c)) + sumN 6 (sUn s) + sumN 6 (sDb s) + sumN 201 (fun m => pc7 (sCm s m)) ≤ 7 * (sMs s).length
  rw [sumN_congr (g := fun c => phi1 (sCh s c)) (fun c _ => hp c)]
  exact h0
theorem time_Inv {n : Nat} {s : Sa} {t : Nat} (h : Inv n s) (hn : n < 512) (ht : t ≤ 1000) : Inv (n + 1) (wCh (wMin s (sMin s + t)) (timeCh (wMin s (sMin s + t)) 16)) := by
  have h1 : Inv (n + 1) (wMin s (sMin s + t)) := by
    have h0 := h.2.1.1
    obtain ⟨_, ⟨k1, k2, k3, k4, k5, k6, k7, k8⟩, ⟨i1, i2, i3, i4, i5⟩, hp⟩ := Inv_mono h hn
    refine ⟨by omega, ⟨by show sMin s + t ≤ _; omega, k2, k3, k4, k5, k6, k7, k8⟩, ⟨i1, i2, i3, fun c => ?_, i5⟩, hp⟩
    obtain ⟨q1, q2, q3, q4, q5, q6, q7, q8, q9, q10, q11, q12⟩ := i4 c
    exact ⟨q1, q2, q3, q4, q5, q6, q7, q8, Nat.le_trans q9 (Nat.le_add_right _ _), fun u hu => Nat.le_trans (q10 u hu) (Nat.le_add_right _ _), q11, q12⟩
  refine chF_Inv h1 (fun c => ?_) (fun c => ?_)
  · unfold timeCh
    split
    · rename_i hd
      have h2 := hd.2
      unfold dueC at h2
      simp only [Bool.and_eq_true, Bool.not_eq_true', beq_eq_false_iff_ne] at h2
      exact okCh_layK (h1.2.2.1.2.2.2.1 c) h1.1 (Nat.pos_of_ne_zero h2.1.2) h2.1.1
    · exact h1.2.2.1.2.2.2.1 c
  · unfold timeCh
    split
    · exact phi1_layK _ _ _
    · rfl
theorem okCh_free {s : Sa} {n c k : Nat} {d : Ch} (h : okCh s n c d) (hk : k ≤ cKept d) (hs : sLn s (c / 2) ≠ none) : okCh s n c (wKept d k) := by
  obtain ⟨q1, q2, q3, q4, q5, q6, q7, q8, q9, q10, q11, q12⟩ := h
  exact ⟨by show k ≤ 20; omega, by show k ≤ (cSent d).length; omega, q3, q4, q5, q6, q7, q8, q9, q10, q11, fun q => absurd q hs⟩
theorem okCh_ask {s : Sa} {n c : Nat} {d : Ch} (h : okCh s n c d) (hs : sLn s (c / 2) ≠ none) : okCh s n c (wAsk d (some (sMin s))) := by
  obtain ⟨q1, q2, q3, q4, q5, q6, q7, q8, q9, q10, q11, q12⟩ := h
  refine ⟨q1, q2, q3, q4, q5, q6, q7, q8, q9, fun t ht => ?_, q11, fun q => absurd q hs⟩
  have : some (sMin s) = some t := ht
  cases this
  exact Nat.le_refl _
theorem layAll_ok {s : Sa} {n c : Nat} (hn : n ≤ 512) (hs : serves s (c / 2) = true) : ∀ (m k : Nat) {d : Ch}, k + m ≤ cKept d → okCh s n c d → okCh s n c (layAll (sMin s) m k d) ∧ phi1 (layAll (sMin s) m k d) = phi1 d
  | 0, k, d, _, h => ⟨h, rfl⟩
  | m + 1, k, d, hk, h => by
    have h1 := okCh_layK h hn (k := k) (by omega) hs
    have h2 := layAll_ok hn hs m (k + 1) (d := layKeptC d k (sMin s)) (by rw [(layKeptC_sent d k (sMin s)).2.1]; omega) h1
    exact ⟨h2.1, h2.2.trans (phi1_layK d k (sMin s))⟩
theorem send_Inv {n : Nat} {s : Sa} {j b : Nat} {e : Nat × Nat × Nat × Nat} (h : Inv n s) (hn : n < 512) (hj : j < 16) (hb : (sCp s)[b]? = some e) (hk : cKept (sCh s j) < 20) (hs : serves s (j / 2) = true) : Inv (n + 1) (sendS s j b) := by
  rw [send_eq hb]
  have hm := Inv_mono h hn
  have hok := h.2.2.1.2.2.2.1 j
  have hcp := h.2.2.1.2.2.1 e (List.mem_of_getElem? hb)
  have h1 : okCh s (n + 1) j (sentC (sCh s j) (e.2.1, e.2.2.1)) := by
    obtain ⟨q1, q2, q3, q4, q5, q6, q7, q8, q9, q10, q11, q12⟩ := hok
    have hlen : (cSent (sCh s j) ++ [(e.2.1, e.2.2.1)]).length = (cSent (sCh s j)).length + 1 := by rw [List.length_append]; rfl
    refine ⟨by show cKept (sCh s j) + 1 ≤ 20; omega, by show cKept (sCh s j) + 1 ≤ (cSent (sCh s j) ++ [(e.2.1, e.2.2.1)]).length; omega, by show (cSent (sCh s j) ++ [(e.2.1, e.2.2.1)]).length ≤ n + 1; omega, fun x hx => ?_, q5, by show cExp (sCh s j) ≤ (cSent (sCh s j) ++ [(e.2.1, e.2.2.1)]).length + 1; omega, q7, fun f hf => ?_, q9, q10, q11, fun q => ?_⟩
    · rcases List.mem_append.mp hx with hx | hx
      · exact q4 x hx
      · rw [List.mem_singleton.mp hx]; exact ⟨hcp.2.2.1, hcp.2.2.2.1⟩
    · have := q8 f hf
      refine ⟨this.1, this.2.1, this.2.2.1, fun q => ?_⟩
      have := this.2.2.2 q
      show f.2 ≤ (cSent (sCh s j) ++ [(e.2.1, e.2.2.1)]).length
      omega
    · have := serves_isSome hs
      rw [q] at this
      cases this
  have hp1 : phi1 (sentC (sCh s j) (e.2.1, e.2.2.1)) = phi1 (sCh s j) + pc7 e.2.2.1 := by
    unfold phi1
    show (((cSent (sCh s j) ++ [(e.2.1, e.2.2.1)]).drop (cExp (sCh s j) - 1)).map fun x => pc7 x.2).sum = _
    have h6 := hok.2.2.2.2.2.1
    rw [List.drop_append_of_le_length (by omega), List.map_append, List.sum_append]
    simp
  have hB1 := ch1_B hm.B h1
  have hB2 := erase_B (i := b) hB1
  have he1 := ch1_phi (s := s) (d := sentC (sCh s j) (e.2.1, e.2.2.1)) hj
  have he2 := erase_phi (s := ch1 s j (sentC (sCh s j) (e.2.1, e.2.2.1))) (c := e) hb
  have h3 : okCh (wCp (ch1 s j (sentC (sCh s j) (e.2.1, e.2.2.1))) ((sCp s).eraseIdx b)) (n + 1) j (layKeptC (sentC (sCh s j) (e.2.1, e.2.2.1)) (cKept (sCh s j)) (sMin s)) := okCh_layK (s := s) h1 (by omega) (by show cKept (sCh s j) < cKept (sCh s j) + 1; omega) hs
  have hB3 := ch1_B hB2 h3
  have he3 := ch1_phi (s := wCp (ch1 s j (sentC (sCh s j) (e.2.1, e.2.2.1))) ((sCp s).eraseIdx b)) (d := layKeptC (sentC (sCh s j) (e.2.1, e.2.2.1)) (cKept (sCh s j)) (sMin s)) hj
  rw [phi1_layK, show sCh (wCp (ch1 s j (sentC (sCh s j) (e.2.1, e.2.2.1))) ((sCp s).eraseIdx b)) j = sentC (sCh s j) (e.2.1, e.2.2.1) from ch1_at _ _ _] at he3
  have h0 := h.2.2.2
  have he2' : phi (wCp (ch1 s j (sentC (sCh s j) (e.2.1, e.2.2.1))) ((sCp s).eraseIdx b)) + pc7 e.2.2.1 = phi (ch1 s j (sentC (sCh s j) (e.2.1, e.2.2.1))) := he2
  refine ⟨hB3.1, hB3.2.1, hB3.2.2, ?_⟩
  show _ ≤ 7 * (sMs s).length
  omega
theorem meet_Inv {n : Nat} {s : Sa} {l j k se : Nat} (h : Inv n s) (hl : l < 8) (hj : j < 16) (hk : k < 16) (hjk : k ≠ j) (hjl : j / 2 = l) (hkl : k / 2 = l) (hsv : serves s l = true) (hse : 1 ≤ se ∧ se ≤ (cSent (sCh s j)).length) : Inv n (meetS s l j k se).2 := by
  have hsj : serves s (j / 2) = true := by rw [hjl]; exact hsv
  have hsk : serves s (k / 2) = true := by rw [hkl]; exact hsv
  obtain ⟨a, b, hab⟩ := serves_some hsv
  have hab6 := h.2.1.2.2.2.1 l a b true hab
  have hex := (h.bCh j).2.2.2.2.1
  have hnj : sLn s (j / 2) ≠ none := fun q => by rw [hjl, hab] at q; cases q
  have hokj := h.2.2.1.2.2.2.1 j
  by_cases ha : (se + 999 - cExp (sCh s j)) % 999 = 0
  · have e : (meetS s l j k se).2 = comesS (accS s j k se) (endOf (accS s j k se) l (j % 2 == 1)) ((cSent (sCh s j)).getD (se - 1) (0, 0)).1 ((cSent (sCh s j)).getD (se - 1) (0, 0)).2 (l + 1) := by
      unfold meetS
      simp only [ha, if_true]
      rfl
    rw [e]
    refine acc_Inv h hj hk hjk hsj hsk hse ha ?_ (by omega)
    rw [endOf_eq (show sLn (accS s j k se) l = some (a, b, true) from hab)]
    split <;> omega
  · by_cases h4 : (se + 999 - cExp (sCh s j)) % 999 ≤ 400
    · have hask : Inv n (ch1 (ch1 s j (wAsk (sCh s j) (some (sMin s)))) k (layC (sCh s k) (2, cExp (sCh s j)))) := by
        have h1 := ch1_Inv h hj (okCh_ask hokj hnj) (Nat.le_refl _)
        refine ch1_Inv h1 hk ?_ ?_
        · have h2 := h1.2.2.1.2.2.2.1 k
          rw [ch1_ne hjk] at h2
          exact okCh_lay h2 ⟨by show (2 : Nat) < 3; omega, hex.1, by show cExp (sCh s j) ≤ 999; omega, fun q => absurd q (by show ¬ (2 : Nat) = 0; omega)⟩ hsk
        · rw [phi1_lay, ch1_ne hjk]
          exact Nat.le_refl _
      have e : (meetS s l j k se).2 = s ∨ (meetS s l j k se).2 = ch1 (ch1 s j (wAsk (sCh s j) (some (sMin s)))) k (layC (sCh s k) (2, cExp (sCh s j))) := by
        unfold meetS
        simp only [if_neg ha, if_pos h4, ch1_ne hjk]
        split
        · split
          · exact Or.inl rfl
          · exact Or.inr rfl
        · exact Or.inr rfl
      rcases e with e | e
      · rw [e]; exact h
      · rw [e]; exact hask
    · have e : (meetS s l j k se).2 = ch1 s k (layC (sCh s k) (1, (cExp (sCh s j) + 997) % 999 + 1)) := by
        unfold meetS
        simp only [if_neg ha, if_neg h4]
      rw [e]
      refine ch1_Inv h hk (okCh_lay (h.2.2.1.2.2.2.1 k) ⟨by show (1 : Nat) < 3; omega, by show 1 ≤ _ + 1; omega, by show (cExp (sCh s j) + 997) % 999 + 1 ≤ 999; omega, fun q => absurd q (by show ¬ (1 : Nat) = 0; omega)⟩ hsk) ?_
      rw [phi1_lay]
      exact Nat.le_refl _
theorem carry_Inv {n : Nat} {s : Sa} {l c kd se : Nat} {w : List (Nat × Nat)} (h : Inv n s) (hl : l < 8) (hc : c < 2) (hs : (sLn s l).isSome = true) (hwr : cWire (sCh s (2 * l + c)) = (kd, se) :: w) : Inv n (carryS s l (2 * l + c) (2 * l + 1 - c) (kd, se) w).2 := by
  have hcB := h.bCh (2 * l + c)
  have hwl := hcB.2.2.2.2.2.1
  have hok := h.2.2.1.2.2.2.1 (2 * l + c)
  have hsv : serves s l = true := by
    rcases Bool.eq_false_or_eq_true (serves s l) with h1 | h1
    · exact h1
    · have h9 := hok.2.2.2.2.2.2.2.2.2.2.1 (by rw [show (2 * l + c) / 2 = l by omega]; exact h1)
      rw [hwr] at h9
      cases h9
  have hf0 := hcB.2.2.2.2.2.2 (kd, se) (by rw [hwr]; exact List.mem_cons_self)
  have hne : sLn s ((2 * l + c) / 2) ≠ none := fun q => by rw [show (2 * l + c) / 2 = l by omega] at q; rw [q] at hs; cases hs
  have hnk : sLn s ((2 * l + 1 - c) / 2) ≠ none := fun q => by rw [show (2 * l + 1 - c) / 2 = l by omega] at q; rw [q] at hs; cases hs
  have hV1 : Inv n (ch1 s (2 * l + c) (wWire (sCh s (2 * l + c)) w)) := ch1_Inv h (by omega) (okCh_wire hok (fun f hf => by rw [hwr]; exact List.mem_cons_of_mem _ hf) (by rw [hwr] at hwl; simp at hwl; omega) hne) (Nat.le_refl _)
  have hkj : 2 * l + 1 - c ≠ 2 * l + c := by omega
  have hck : sCh (ch1 s (2 * l + c) (wWire (sCh s (2 * l + c)) w)) (2 * l + 1 - c) = sCh s (2 * l + 1 - c) := ch1_ne hkj
  have hokk := hV1.2.2.1.2.2.2.1 (2 * l + 1 - c)
  by_cases h0 : kd = 0
  · subst h0
    have e : carryS s l (2 * l + c) (2 * l + 1 - c) (0, se) w = meetS (ch1 s (2 * l + c) (wWire (sCh s (2 * l + c)) w)) l (2 * l + c) (2 * l + 1 - c) se := by unfold carryS; simp only [if_true]
    rw [e]
    exact meet_Inv hV1 hl (by omega) (by omega) hkj (by omega) (by omega) hsv (by rw [ch1_at]; exact ⟨hf0.2.1, hf0.2.2.2 rfl⟩)
  · by_cases h1 : kd = 1
    · subst h1
      have e : carryS s l (2 * l + c) (2 * l + 1 - c) (1, se) w = (4, ch1 (ch1 s (2 * l + c) (wWire (sCh s (2 * l + c)) w)) (2 * l + 1 - c) (freeC (sCh (ch1 s (2 * l + c) (wWire (sCh s (2 * l + c)) w)) (2 * l + 1 - c)) se)) := by unfold carryS; simp only [show ¬ (1 : Nat) = 0 by decide, if_false, if_true]
      rw [e]
      refine ch1_Inv hV1 (by omega) ?_ ?_
      · unfold freeC
        split
        · exact okCh_free hokk (by omega) hnk
        · exact hokk
      · unfold freeC
        split <;> exact Nat.le_refl _
    · have e : carryS s l (2 * l + c) (2 * l + 1 - c) (kd, se) w = (5, ch1 (ch1 s (2 * l + c) (wWire (sCh s (2 * l + c)) w)) (2 * l + 1 - c) (againC (sCh (ch1 s (2 * l + c) (wWire (sCh s (2 * l + c)) w)) (2 * l + 1 - c)) se (sMin s))) := by unfold carryS; simp only [if_neg h0, if_neg h1]
      rw [e]
      have hsk : serves (ch1 s (2 * l + c) (wWire (sCh s (2 * l + c)) w)) ((2 * l + 1 - c) / 2) = true := by rw [show (2 * l + 1 - c) / 2 = l by omega]; exact hsv
      have hkk := hokk.2.1
      refine ch1_Inv hV1 (by omega) ?_ ?_
      · unfold againC
        split
        · rename_i hin
          exact (layAll_ok (s := ch1 s (2 * l + c) (wWire (sCh s (2 * l + c)) w)) hV1.1 hsk _ _ (by omega) hokk).1
        · exact hokk
      · unfold againC
        split
        · rename_i hin
          exact Nat.le_of_eq (layAll_ok (s := ch1 s (2 * l + c) (wWire (sCh s (2 * l + c)) w)) hV1.1 hsk _ _ (by omega) hokk).2
        · exact Nat.le_refl _
theorem disturb_Inv {n : Nat} {s : Sa} {j : Nat} {f : Nat × Nat} {w v : List (Nat × Nat)} (h : Inv n s) (hj : j < 16) (hs : sLn s (j / 2) ≠ none) (hwr : cWire (sCh s j) = f :: w) (hv : v = w ∨ (v = f :: f :: w ∧ w.length < 199)) : Inv n (ch1 s j (wWire (sCh s j) v)) := by
  have hwl := (h.bCh j).2.2.2.2.2.1
  rw [hwr] at hwl
  simp at hwl
  refine ch1_Inv h hj (okCh_wire (h.2.2.1.2.2.2.1 j) (fun g hg => ?_) ?_ hs) (Nat.le_refl _)
  · rw [hwr]
    rcases hv with rfl | ⟨rfl, _⟩
    · exact List.mem_cons_of_mem _ hg
    · rcases List.mem_cons.mp hg with hg | hg
      · rw [hg]; exact List.mem_cons_self
      · exact hg
  · rcases hv with rfl | ⟨rfl, h2⟩
    · omega
    · simp
      omega
theorem iLine {n : Nat} {s : Sa} (h : Inv n s) (hn : n < 512) (l a b : Int32) : Inv (n + 1) (stLine s l a b).2.2 := by
  unfold stLine
  split
  · rename_i hc
    simp only [Bool.and_eq_true, Bool.not_eq_true', decide_eq_false_iff_not, beq_eq_false_iff_ne] at hc
    obtain ⟨⟨⟨⟨⟨⟨h1, h2⟩, h3⟩, h4⟩, h5⟩, h6⟩, h7⟩ := hc
    obtain ⟨i, hi, rfl⟩ := inZ_of (by decide) h1
    obtain ⟨a, ha, rfl⟩ := swB_of h3
    obtain ⟨b, hb, rfl⟩ := swB_of h4
    rw [nN_nI (by omega)] at h2 h6 h7
    rw [nN_nI (by omega), nN_nI (by omega), nN_nI (by omega)]
    refine line_Inv (Inv_mono h hn) (by omega) ha hb (fun q => h5 (by rw [q])) ?_ h6 h7
    cases hc : sLn s i with
    | none => rfl
    | some r => unfold lnB at h2; rw [hc] at h2; cases h2
  · exact Inv_mono h hn
theorem iRoute {n : Nat} {s : Sa} (h : Inv n s) (hn : n < 512) (x one two len mn ot : Int32) : Inv (n + 1) (stRoute s x one two len mn ot).2.2 := by
  unfold stRoute
  split
  · rename_i hc
    split
    · exact Inv_mono h hn
    · rename_i h16
      unfold rtOK at hc
      simp only [Bool.and_eq_true] at hc
      obtain ⟨⟨⟨⟨h1, h2⟩, h3⟩, ⟨h4, h5⟩, _⟩, _⟩ := hc
      obtain ⟨j, hj, rfl⟩ := swB_of h1
      obtain ⟨L, hL1, hL2, rfl⟩ := inZ_w (by decide) (by decide) h2
      rw [nN_nI (by omega)] at h3 h4 h5 h16
      rw [nN_nI (by omega), nN_nI (by omega)]
      have hm := Inv_mono h hn
      have hlen := (hm.2.1.2.2.2.2.2.1 j).1
      refine route_Inv hm (by omega) ⟨by rw [pfx_len]; exact hL1, by rw [pfx_len]; exact hL2, pfx_b hL2 ((pfxOK_iff one two L).mp h3), fun i hi => ?_, fun i hi => ?_⟩
      · have hi2 : i2o mn = some i := hi
        unfold i2o at hi2
        split at hi2
        · cases hi2
        · rename_i hne
          obtain ⟨q, hq, rfl, hat⟩ := lnOr_of h4 hne
          rw [nN_nI (by omega)] at hi2
          cases hi2
          exact ⟨hq, hat⟩
      · have hi2 : i2o ot = some i := hi
        unfold i2o at hi2
        split at hi2
        · cases hi2
        · rename_i hne
          obtain ⟨q, hq, rfl, hat⟩ := lnOr_of h5 hne
          rw [nN_nI (by omega)] at hi2
          cases hi2
          exact ⟨hq, hat⟩
  · exact Inv_mono h hn
theorem iPut {n : Nat} {s : Sa} (h : Inv n s) (hn : n < 512) (i v : Int32) : Inv (n + 1) (stPut s i v).2.2 := by
  unfold stPut
  split
  · rename_i hc
    obtain ⟨j, _, hj, rfl⟩ := inZ_w (by decide) (by decide) hc
    rw [nN_nI (by omega)]
    exact put_Inv h hn (by omega)
  · exact Inv_mono h hn
theorem judge_ok {g : Nat → Int} {p : Nat} {as : List (List Nat)} (h : judge g = .inl (p, as)) : p < 5 := by
  unfold judge at h
  cases hh : pHead g with
  | inr f => rw [hh] at h; cases h
  | inl q =>
    obtain ⟨p', a⟩ := q
    rw [hh] at h
    have h5 := (pHead_b hh).2
    simp only at h
    split at h
    · cases h
    · split at h
      · cases h
      · split at h
        · cases h
        · split at h
          · cases h
          · split at h
            · cases h
            · split at h
              · cases h
              · split at h
                · cases h
                · split at h
                  · cases h
                  · cases h
                    exact h5
theorem iSend {n : Nat} {s : Sa} (h : Inv n s) (hn : n < 512) (l c : Int32) : Inv (n + 1) (stSend s l c).2.2 := by
  unfold stSend
  split
  · rename_i hx
    obtain ⟨i, j, hi, hj, rfl, rfl, hs⟩ := chOK_of hx
    rw [nN_nI (by omega), nN_nI (by omega)]
    split
    · exact Inv_mono h hn
    · rename_i b hb
      split
      · exact Inv_mono h hn
      · rename_i hk
        have hbl := bIdx_lt hb
        obtain ⟨e, he⟩ := get_of hbl.1
        have h20 := (h.bCh (2 * i + j)).1
        have hk1 : cKept (sCh s (2 * i + j)) ≠ 20 := fun q => hk (Or.inl q)
        refine send_Inv h hn (by omega) he (by omega) ?_
        rw [show (2 * i + j) / 2 = i by omega]
        rcases Bool.eq_false_or_eq_true (serves s i) with h1 | h1
        · exact h1
        · exact absurd (Or.inr h1) hk
  · exact Inv_mono h hn
theorem iCarry {n : Nat} {s : Sa} (h : Inv n s) (hn : n < 512) (l c : Int32) : Inv (n + 1) (stCarry s l c).2.2 := by
  unfold stCarry
  split
  · rename_i hx
    obtain ⟨i, j, hi, hj, rfl, rfl, hs⟩ := chOK_of hx
    rw [nN_nI (by omega), nN_nI (by omega)]
    split
    · exact Inv_mono h hn
    · rename_i f w hw
      exact Inv_mono (carry_Inv h hi hj hs hw) hn
  · exact Inv_mono h hn
theorem iDisturb {n : Nat} {s : Sa} (h : Inv n s) (hn : n < 512) (l c how : Int32) : Inv (n + 1) (stDisturb s l c how).2.2 := by
  unfold stDisturb
  split
  · rename_i hx
    rw [Bool.and_eq_true] at hx
    obtain ⟨i, j, hi, hj, rfl, rfl, hs⟩ := chOK_of hx.1
    rw [nN_nI (by omega), nN_nI (by omega)]
    have hne : sLn s ((2 * i + j) / 2) ≠ none := fun q => by rw [show (2 * i + j) / 2 = i by omega] at q; rw [q] at hs; cases hs
    split
    · exact Inv_mono h hn
    · rename_i f w hw
      have hwl := (h.bCh (2 * i + j)).2.2.2.2.2.1
      rw [hw] at hwl
      simp at hwl
      split
      · exact Inv_mono (disturb_Inv h (by omega) hne hw (Or.inl rfl)) hn
      · split
        · exact Inv_mono h hn
        · rename_i h9
          exact Inv_mono (disturb_Inv h (by omega) hne hw (Or.inr ⟨rfl, by omega⟩)) hn
  · exact Inv_mono h hn
theorem serve_eq (s : Sa) (l : Nat) (v : Bool) (a b : Nat) : serveS s l v a b = if v then releaseS (releaseS (srv1 s l v a b) a) b else srv1 s l v a b := rfl
theorem iServe {n : Nat} {s : Sa} (h : Inv n s) (hn : n < 512) (l : Int32) (v : Bool) : Inv (n + 1) (stServe s l v).2.2 := by
  unfold stServe
  split
  · rename_i hx
    obtain ⟨i, hi, rfl, hs⟩ := hasB_of hx
    rw [nN_nI (by omega)]
    split
    · exact Inv_mono h hn
    · rename_i a b w hl
      split
      · exact Inv_mono h hn
      · have hab := h.2.1.2.2.2.1 i a b w hl
        have h1 := srv1_Inv (v := v) h hi hl
        refine Inv_mono ?_ hn
        show Inv n (serveS s i v a b)
        rw [serve_eq]
        split
        · exact releaseN_Inv hab.2.2.1 _ (releaseN_Inv hab.2.1 _ h1)
        · exact h1
  · exact Inv_mono h hn
theorem iTime {n : Nat} {s : Sa} (h : Inv n s) (hn : n < 512) (t : Int32) : Inv (n + 1) (stTime s t).2.2 := by
  unfold stTime
  split
  · rename_i hc
    obtain ⟨j, _, hj, rfl⟩ := inZ_w (by decide) (by decide) hc
    rw [nN_nI (by omega)]
    exact time_Inv h hn hj
  · exact Inv_mono h hn
theorem iDelivered {n : Nat} {s : Sa} (h : Inv n s) (hn : n < 512) (x : Int32) : Inv (n + 1) (stDelivered s x).2.2 := by
  unfold stDelivered
  split <;> exact Inv_mono h hn
theorem iRead {n : Nat} {s : Sa} (h : Inv n s) (hn : n < 512) (x k i : Int32) : Inv (n + 1) (stRead s x k i).2.2 := by
  unfold stRead
  split
  · split
    · exact Inv_mono h hn
    · split
      · exact Inv_mono h hn
      · split <;> exact Inv_mono h hn
  · exact Inv_mono h hn
theorem iArrived {n : Nat} {s : Sa} (h : Inv n s) (hn : n < 512) (m k : Int32) : Inv (n + 1) (stArrived s m k).2.2 := by
  unfold stArrived
  split <;> exact Inv_mono h hn
theorem iChannel {n : Nat} {s : Sa} (h : Inv n s) (hn : n < 512) (l c w : Int32) : Inv (n + 1) (stChannel s l c w).2.2 := by
  have := Inv_mono h hn
  unfold stChannel
  split
  · simp only
    repeat' split
    all_goals exact this
  · exact this
theorem iCount {n : Nat} {s : Sa} (h : Inv n s) (hn : n < 512) (x w : Int32) : Inv (n + 1) (stCount s x w).2.2 := by
  have := Inv_mono h hn
  unfold stCount
  repeat' split
  all_goals exact this
theorem pAddrs_ok {t : Nat → Nat} {ln : Nat} : ∀ {f a : Nat} {as : List (List Nat)} {b : Nat} {bs : List (List Nat)}, pAddrs (gv t ln) f a as = .inl (b, bs) → (∀ x ∈ as, ad8 x) → bs.length ≤ as.length + f ∧ 1 ≤ bs.length ∧ ∀ x ∈ bs, ad8 x
  | 0, a, as, b, bs, h, _ => by cases h
  | f + 1, a, as, b, bs, h, ha => by
    rw [pAddrs] at h
    cases hc : pLet (gv t ln) 2 8 a with
    | inr x => rw [hc] at h; cases h
    | inl c =>
      rw [hc] at h
      simp only at h
      have h8 := eight_ad (pLet_inl hc).2
      have hnew : ∀ x ∈ as ++ [eight (gv t ln) a], ad8 x := by
        intro x hx
        rcases List.mem_append.mp hx with hx | hx
        · exact ha x hx
        · rw [List.mem_singleton.mp hx]; exact h8
      have hlen : (as ++ [eight (gv t ln) a]).length = as.length + 1 := by rw [List.length_append]; rfl
      split at h
      · cases h
      · split at h
        · cases f with
          | zero => cases h
          | succ f =>
            have := pAddrs_ok h hnew
            rw [hlen] at this
            exact ⟨by omega, this.2⟩
        · split at h
          · cases h
            rw [hlen]
            exact ⟨by omega, by omega, hnew⟩
          · cases h
theorem judge_ad {t : Nat → Nat} {ln p : Nat} {as : List (List Nat)} (h : judge (gv t ln) = .inl (p, as)) : as.length ≤ 7 ∧ 1 ≤ as.length ∧ ∀ x ∈ as, ad8 x := by
  unfold judge at h
  cases hh : pHead (gv t ln) with
  | inr f => rw [hh] at h; cases h
  | inl q =>
    obtain ⟨p', a⟩ := q
    rw [hh] at h
    simp only at h
    cases ha : pAddrs (gv t ln) 7 a [] with
    | inr f => rw [ha] at h; cases h
    | inl q =>
      obtain ⟨b, bs⟩ := q
      have hk := pAddrs_ok ha (fun x hx => (by cases hx))
      rw [ha] at h
      simp only at h
      split at h
      · cases h
      · split at h
        · cases h
        · split at h
          · cases h
          · split at h
            · cases h
            · split at h
              · cases h
              · split at h
                · cases h
                · split at h
                  · cases h
                  · cases h
                    simpa using hk
theorem iFile {n : Nat} {s : Sa} (h : Inv n s) (hn : n < 512) (x ln : Int32) : Inv (n + 1) (stFile s x ln).2.2 := by
  unfold stFile
  split
  · rename_i hc
    rw [Bool.and_eq_true] at hc
    obtain ⟨j, hj, rfl⟩ := swB_of hc.1
    obtain ⟨L, _, hL, rfl⟩ := inZ_w (by decide) (by decide) hc.2
    rw [nN_nI (by omega), nN_nI (by omega)]
    have hms := h.2.1.2.2.2.2.2.2.1
    split
    · exact Inv_mono h hn
    · rename_i h2
      split
      · exact Inv_mono h hn
      · rename_i q hq
        obtain ⟨p, as⟩ := q
        have h1 := judge_ad hq
        exact Inv_mono (file_Inv (r := (p, as, L, (sLog s).length)) h hj (by omega) ⟨judge_ok hq, h1.2.1, h1.1, h1.2.2, hL, Nat.le_refl _⟩) hn
  · exact Inv_mono h hn
theorem sumN_0 {n : Nat} {f : Nat → Nat} (h : ∀ i, i < n → f i = 0) : sumN n f = 0 := by
  induction n with
  | zero => rfl
  | succ n ih => rw [sumN_s, ih (fun i hi => h i (by omega)), h n (by omega)]
theorem Inv_0 : Inv 0 sa0 := by
  refine ⟨by decide, ⟨Nat.le_refl _, Nat.le_refl _, fun p hp => (by cases hp), fun l a b v h => (by cases h), fun x => by rw [show degree sa0 x = 0 from rfl]; decide, fun x => ⟨Nat.zero_le _, fun e he => (by cases he)⟩, Nat.zero_le _, fun m hm => (by cases hm)⟩, ⟨fun m => Nat.pow_pos (by decide), fun m _ => rfl, fun c hc => (by cases hc), fun c => ?_, fun x => ⟨List.nodup_nil, fun m hm => (by cases hm)⟩⟩, ?_⟩
  rotate_left
  · unfold phi
    rw [sumN_0 (f := fun c => phi1 (sCh sa0 c)) (fun i _ => rfl), sumN_0 (f := sUn sa0) (fun i _ => rfl), sumN_0 (f := sDb sa0) (fun i _ => rfl), sumN_0 (f := fun m => pc7 (sCm sa0 m)) (fun i _ => pc7_0)]
    exact Nat.le_refl _
  exact ⟨Nat.zero_le _, Nat.zero_le _, Nat.zero_le _, fun x hx => (by cases hx), Nat.le_refl _, Nat.le_refl _, Nat.zero_le _, fun f hf => (by cases hf), Nat.zero_le _, fun t ht => (by cases ht), fun _ => rfl, fun _ => rfl⟩
end Inv4
