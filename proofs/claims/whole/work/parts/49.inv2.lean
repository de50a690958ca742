section Inv2
theorem atSw_eq {s t : Sa} (h : sLn t = sLn s) (l x : Nat) : atSw t l x = atSw s l x := by unfold atSw; rw [h]
theorem degree_eq {s t : Sa} (h : sLn t = sLn s) (x : Nat) : degree t x = degree s x := by unfold degree; simp only [atSw_eq h]
theorem cntOf_eq {s t : Sa} (h : sMs t = sMs s) (m : Nat) : cntOf t m = cntOf s m := by unfold cntOf; rw [h]
theorem okRt_eq {s t : Sa} (h : sLn t = sLn s) {x : Nat} {e : RtE} (hk : okRt s x e) : okRt t x e := by
  unfold okRt at hk ⊢
  simp only [atSw_eq h]
  exact hk
theorem okP_eq {s t : Sa} (h : sMs t = sMs s) {m set : Nat} (hk : okP s m set) : okP t m set := by
  unfold okP at hk ⊢
  rw [cntOf_eq h, h]
  exact hk
theorem okCp_eq {s t : Sa} (h : sMs t = sMs s) (h1 : sLn t = sLn s) {c : Nat × Nat × Nat × Nat} (hk : okCp s c) : okCp t c := by
  obtain ⟨a, b, c', d, e⟩ := hk
  exact ⟨a, by rw [h1]; exact b, okP_eq h c', d, e⟩
theorem okCh_eq {s t : Sa} {n c : Nat} {d : Ch} (h : sMs t = sMs s) (h1 : sLn t = sLn s) (h2 : sMin t = sMin s) (hk : okCh s n c d) : okCh t n c d := by
  obtain ⟨k1, k2, k3, k4, k5, k6, k7, k8, k9, k10, k11, k12⟩ := hk
  exact ⟨k1, k2, k3, fun x hx => ⟨okP_eq h (k4 x hx).1, (k4 x hx).2⟩, k5, k6, k7, k8, by rw [h2]; exact k9, by rw [h2]; exact k10, by rw [serves_eq h1]; exact k11, by rw [h1]; exact k12⟩
theorem Inv1_eq {n : Nat} {s t : Sa} (h1 : sLn t = sLn s) (h2 : sRt t = sRt s) (h3 : sMs t = sMs s) (h4 : sMin t = sMin s) (h5 : sLog t = sLog s) (hk : Inv1 n s) : Inv1 n t := by
  obtain ⟨k1, k2, k3, k4, k5, k6, k7, k8⟩ := hk
  refine ⟨by rw [h4]; exact k1, by rw [h5]; exact k2, by rw [h5]; exact k3, by rw [h1]; exact k4, fun x => by rw [degree_eq h1]; exact k5 x, fun x => by rw [h2]; exact ⟨(k6 x).1, fun e he => okRt_eq h1 ((k6 x).2 e he)⟩, by rw [h3]; exact k7, by rw [h3, h5]; exact k8⟩
theorem cm_zero {s : Sa} (h : ∀ m, sCm s m < 2 ^ cntOf s m) (m : Nat) (hm : (sMs s).length < m) : sCm s m = 0 := by
  have := h m
  have e : cntOf s m = 0 := by
    unfold cntOf
    rw [List.getD_eq_getElem?_getD, List.getElem?_eq_none (by omega)]
    rfl
  rw [e] at this
  omega
theorem share_mem {s : Sa} {x m : Nat} {sh : Nat → Nat} : ∀ {n : Nat} {c : Nat × Nat × Nat × Nat}, c ∈ shareCopies s x m sh n → ∃ l, l < n ∧ sh l ≠ 0 ∧ c = (2 * l + sideOf s l x, m, sh l, 0)
  | 0, c, h => by cases h
  | n + 1, c, h => by
    rw [share_s, List.mem_append] at h
    rcases h with h | h
    · obtain ⟨l, h1, h2⟩ := share_mem h
      exact ⟨l, by omega, h2⟩
    · split at h
      · cases h
      · rename_i hn
        exact ⟨n, by omega, hn, List.mem_singleton.mp h⟩
theorem side_le (s : Sa) (l x : Nat) : sideOf s l x ≤ 1 := by
  unfold sideOf
  split
  · split <;> omega
  · omega
theorem serves_isSome {s : Sa} {l : Nat} (h : serves s l = true) : (sLn s l).isSome = true := by
  obtain ⟨a, b, e⟩ := serves_some h
  rw [e]
  rfl
theorem comesS_B {n : Nat} {s : Sa} {x m set by1 : Nat} (h : InvB n s) (hx : x < 6) (hm : 1 ≤ m ∧ m ≤ (sMs s).length) (hby : by1 ≤ 8) : InvB n (comesS s x m set by1) := by
  have hC := h.CI
  have hf := CF_loop (x := x) (by1 := by1) (set := set) (as := ((sMs s).getD (m - 1) (0, [], 0, 0)).2.1) hC hm (cntOf s m) (Nat.le_refl _)
  obtain ⟨⟨f1, f2, f3, f4, f5, f6, f7⟩, hci, hlt, hsv⟩ := hf
  rw [comesS_eq]
  simp only
  rw [show ((sMs s).getD (m - 1) (0, [], 0, 0)).2.1.length = cntOf s m from rfl]
  generalize comeLoop x m by1 ((sMs s).getD (m - 1) (0, [], 0, 0)).2.1 set (cntOf s m) (s, fun _ => 0) = q at f1 f2 f3 f4 f5 f6 f7 hci hlt hsv ⊢
  obtain ⟨i1, i2, i3, i4, i5⟩ := h.2.2
  refine ⟨h.1, Inv1_eq (s := s) f1 f2 f3 f6 f7 h.2.1, ?_, ?_, ?_, ?_, ?_⟩
  · exact hci.2.1
  · exact cm_zero (s := q.1) hci.2.1
  · intro c hc
    have hc2 : c ∈ sCp q.1 ++ shareCopies q.1 x m q.2 8 ++ (if q.2 8 = 0 then [] else [(16 + x, m, q.2 8, by1)]) := hc
    refine okCp_eq (s := s) f3 f1 ?_
    rw [List.mem_append, List.mem_append] at hc2
    rcases hc2 with (hc2 | hc2) | hc2
    · rw [f4] at hc2
      exact i3 c hc2
    · obtain ⟨l, hl, hne, rfl⟩ := share_mem hc2
      have hs := side_le q.1 l x
      refine ⟨by show 2 * l + sideOf q.1 l x < 22; omega, fun _ => ?_, ⟨hm.1, hm.2, hlt l⟩, Nat.pos_of_ne_zero hne, by show 0 ≤ 8; omega⟩
      show (sLn s ((2 * l + sideOf q.1 l x) / 2)).isSome = true
      rw [show (2 * l + sideOf q.1 l x) / 2 = l by omega]
      exact serves_isSome (hsv l hl hne)
    · split at hc2
      · cases hc2
      · rename_i hne
        rw [List.mem_singleton.mp hc2]
        exact ⟨by show 16 + x < 22; omega, fun q => absurd q (by show ¬ 16 + x < 16; omega), ⟨hm.1, hm.2, hlt 8⟩, Nat.pos_of_ne_zero hne, hby⟩
  · intro c
    show okCh _ n c (sCh q.1 c)
    rw [f5]
    exact okCh_eq (s := s) f3 f1 f6 (i4 c)
  · intro y
    exact hci.2.2.2 y
theorem phiCp_erase : ∀ {l : List (Nat × Nat × Nat × Nat)} {i : Nat} {c : Nat × Nat × Nat × Nat}, l[i]? = some c → phiCp (l.eraseIdx i) + pc7 c.2.2.1 = phiCp l
  | [], i, c, h => by simp at h
  | a :: l, 0, c, h => by
    simp at h
    subst h
    simp [phiCp]
    omega
  | a :: l, i + 1, c, h => by
    have := phiCp_erase (l := l) (i := i) (c := c) (by simpa using h)
    simp only [List.eraseIdx_cons_succ, phiCp, List.map_cons, List.sum_cons] at this ⊢
    omega
theorem erase_B {n i : Nat} {s : Sa} (h : InvB n s) : InvB n (wCp s ((sCp s).eraseIdx i)) := by
  obtain ⟨i1, i2, i3, i4, i5⟩ := h.2.2
  exact ⟨h.1, h.2.1, i1, i2, fun c hc => i3 c (List.mem_of_mem_eraseIdx hc), i4, i5⟩
theorem erase_phi {s : Sa} {i : Nat} {c : Nat × Nat × Nat × Nat} (hc : (sCp s)[i]? = some c) : phi (wCp s ((sCp s).eraseIdx i)) + pc7 c.2.2.1 = phi s := by
  have := phiCp_erase hc
  show phiCp ((sCp s).eraseIdx i) + _ + _ + _ + _ + _ = _
  unfold phi
  show phiCp ((sCp s).eraseIdx i) + sumN 16 (fun c => phi1 (sCh s c)) + sumN 6 (sUn s) + sumN 6 (sDb s) + sumN 201 (fun m => pc7 (sCm s m)) + _ = _
  omega
/-- one held copy comes again -/
theorem comes_again {n i sw : Nat} {s : Sa} {c : Nat × Nat × Nat × Nat} (h : Inv n s) (hsw : sw < 6) (hc : (sCp s)[i]? = some c) : Inv n (comesS (wCp s ((sCp s).eraseIdx i)) sw c.2.1 c.2.2.1 c.2.2.2) := by
  have hok := h.2.2.1.2.2.1 c (List.mem_of_getElem? hc)
  have hB := erase_B (i := i) h.B
  have hm : 1 ≤ c.2.1 ∧ c.2.1 ≤ (sMs (wCp s ((sCp s).eraseIdx i))).length := ⟨hok.2.2.1.1, hok.2.2.1.2.1⟩
  have hB2 := comesS_B (set := c.2.2.1) hB hsw hm hok.2.2.2.2
  have hp := comesS_phi (set := c.2.2.1) (by1 := c.2.2.2) hB hsw hm
  have he := erase_phi hc
  have hsm := comesS_same (x := sw) (set := c.2.2.1) (by1 := c.2.2.2) hB.CI hm
  refine ⟨hB2.1, hB2.2.1, hB2.2.2, ?_⟩
  have := h.2.2.2
  rw [hsm.2.2.1]
  show _ ≤ 7 * (sMs s).length
  omega
theorem releaseN_s (sw n : Nat) (s : Sa) : releaseN sw (n + 1) s = match (sCp s).findIdx? (fun c => c.1 == 16 + sw) with
    | none => s
    | some i => releaseN sw n (comesS (wCp s ((sCp s).eraseIdx i)) sw ((sCp s).getD i (0, 0, 0, 0)).2.1 ((sCp s).getD i (0, 0, 0, 0)).2.2.1 ((sCp s).getD i (0, 0, 0, 0)).2.2.2) := rfl
theorem findIdx_get {l : List (Nat × Nat × Nat × Nat)} {p : Nat × Nat × Nat × Nat → Bool} {i : Nat} (h : l.findIdx? p = some i) : ∃ c, l[i]? = some c ∧ p c = true ∧ l.getD i (0, 0, 0, 0) = c ∧ ∀ j d, j < i → l[j]? = some d → p d = false := by
  obtain ⟨hi, h1, h2⟩ := List.findIdx?_eq_some_iff_getElem.mp h
  refine ⟨l[i], List.getElem?_eq_getElem hi, h1, by rw [List.getD_eq_getElem?_getD, List.getElem?_eq_getElem hi]; rfl, fun j d hj hd => ?_⟩
  have := h2 j hj
  have hjl : j < l.length := by omega
  rw [List.getElem?_eq_getElem hjl] at hd
  cases hd
  simpa using this
theorem releaseN_Inv {sw n : Nat} (hsw : sw < 6) : ∀ (k : Nat) {s : Sa}, Inv n s → Inv n (releaseN sw k s)
  | 0, s, h => h
  | k + 1, s, h => by
    rw [releaseN_s]
    cases hf : (sCp s).findIdx? (fun c => c.1 == 16 + sw) with
    | none => exact h
    | some i =>
      obtain ⟨c, hc, _, hd, _⟩ := findIdx_get hf
      simp only [hd]
      exact releaseN_Inv hsw k (comes_again h hsw hc)
theorem releaseN_same {sw n : Nat} (hsw : sw < 6) : ∀ (k : Nat) {s : Sa}, Inv n s → sLn (releaseN sw k s) = sLn s ∧ sMs (releaseN sw k s) = sMs s ∧ sCh (releaseN sw k s) = sCh s ∧ sMin (releaseN sw k s) = sMin s
  | 0, s, h => ⟨rfl, rfl, rfl, rfl⟩
  | k + 1, s, h => by
    rw [releaseN_s]
    cases hf : (sCp s).findIdx? (fun c => c.1 == 16 + sw) with
    | none => exact ⟨rfl, rfl, rfl, rfl⟩
    | some i =>
      obtain ⟨c, hc, _, hd, _⟩ := findIdx_get hf
      simp only [hd]
      have hok := h.2.2.1.2.2.1 c (List.mem_of_getElem? hc)
      have hB := erase_B (i := i) h.B
      have hsm := comesS_same (s := wCp s ((sCp s).eraseIdx i)) (x := sw) (set := c.2.2.1) (by1 := c.2.2.2) hB.CI ⟨hok.2.2.1.1, hok.2.2.1.2.1⟩
      obtain ⟨a, b, c', d⟩ := releaseN_same hsw k (comes_again h hsw hc)
      exact ⟨a.trans hsm.1, b.trans hsm.2.2.1, c'.trans hsm.2.2.2.1, d.trans hsm.2.2.2.2.1⟩
end Inv2
