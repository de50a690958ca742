section Sw2
variable {Γ : Gm} {ρ : Nat → Nat} {K N : Nat → Nat} {I : Nat → Nat → Int32} {R : Nat → Nat → Option Nat} {L : Nat → Nat → Int64} {E : Nat → Nat → Int32} {El : Nat → Nat → Int64} {Er : Nat → Nat → Option Nat} {s : Sa}
theorem sw_ne (h : RepN Γ ρ K N I R L E El Er s) {x y : Nat} (hx : x < 6) (hy : y < 6) (hne : y ≠ x) : Γ 1 y ≠ Γ 1 x := fun e => by have a := (h.sw x hx).2.2.1; rw [← e, (h.sw y hy).2.2.1] at a; omega
theorem mg_ne (h : RepN Γ ρ K N I R L E El Er s) {i j : Nat} {m m2 : Nat × List (List Nat) × Nat × Nat} (hm : (sMs s)[i]? = some m) (hm2 : (sMs s)[j]? = some m2) (hne : j ≠ i) : Γ 14 (j + 1) ≠ Γ 14 (i + 1) := fun e => by have a := (h.mg i m hm).2.2.1; rw [← e, (h.mg j m2 hm2).2.2.1] at a; omega
theorem RepN.un (h : RepN Γ ρ K N I R L E El Er s) {x : Nat} (hx : x < 6) : RepN Γ ρ K N (u2 I 54 (Γ 1 x) (nI (sUn s x + 1))) R L E El Er (wUn s (va_up (sUn s) x (sUn s x + 1))) := by
  have F : Fr0 ρ ρ K N K N I (u2 I 54 (Γ 1 x) (nI (sUn s x + 1))) R R L L E E El El Er Er [54] [] [] [] [] := ⟨fun _ _ => ⟨rfl, rfl, rfl⟩, fun g2 q2 hg2 _ => by rw [u2_ne _ _ (fun e => hg2 (by rw [e]; exact List.mem_singleton.mpr rfl))], fun _ _ _ _ => rfl, fun _ _ _ => rfl, fun _ _ _ => rfl, fun _ _ _ => rfl, fun _ _ _ => rfl⟩
  have hD : DF K (u2 I 54 (Γ 1 x) (nI (sUn s x + 1))) R L E El Er := DF.pI h.df (by have := (h.sw x hx).2.1; omega)
  exact ⟨hD, h.nt.fr F (by decide) (fun _ _ => List.not_mem_nil), h.dr.fr F (by decide) List.not_mem_nil, (fun y hy => by obtain ⟨a, b1, b2, c1, c2, c3, d1, d2, d3, e1, e2, e3, f1, f2, f3, f4, f5⟩ := h.sw y hy; exact ⟨a, b1, b2, c1, c2, c3, d1, d2, d3, e1, e2, e3, by rw [u2_ne _ _ (by decide)]; exact f1, by rw [u2_ne _ _ (by decide)]; exact f2, by rw [u2_ne _ _ (by decide)]; exact f3, by by_cases hxy : y = x; (subst hxy; rw [u2_at, if_pos rfl]; show _ = nI (va_up (sUn s) y (sUn s y + 1) y); simp [va_up]); (rw [u2_q _ _ (sw_ne h hx hy hxy), f4]; show nI (sUn s y) = nI (va_up (sUn s) x (sUn s x + 1) y); simp [va_up, hxy]), by rw [u2_ne _ _ (by decide)]; exact f5⟩), h.en.fr F (fun x hx => by have := (h.sw x hx).2.2.2.2.2.2.1; omega) (fun g h1 h2 hm => by simp only [List.mem_cons, List.not_mem_nil, or_false] at hm; omega) (fun x hx => List.not_mem_nil), h.dk.fr F (fun x hx => by have := (h.sw x hx).2.2.2.2.2.2.2.2.2.1; omega) (fun _ _ => List.not_mem_nil), h.hl.fr F (by decide) (by decide), h.li.fr F (by have := h.nt.2.2.2.2.2.2.2.2.2.2.1; omega) (by decide) (by decide) (List.not_mem_nil), h.ci.fr F (fun g h1 h2 hm => by simp only [List.mem_cons, List.not_mem_nil, or_false] at hm; omega) (fun _ _ _ => List.not_mem_nil), h.qu.fr F (fun c hc hs => by have := (h.ci c hc hs).2.2.2.2.2.1; omega) (by decide) (by decide) (fun c hc hs => List.not_mem_nil), h.ri.fr F (by decide) (by decide) (fun c hc hs => ⟨List.not_mem_nil, List.not_mem_nil⟩), h.mg.fr F (by have := h.nt.2.2.2.2.2.2.2.2.2.2.2.2.1; omega) (by decide) (by decide) (fun _ _ => ⟨List.not_mem_nil, List.not_mem_nil⟩) List.not_mem_nil⟩
theorem RepN.db (h : RepN Γ ρ K N I R L E El Er s) {x : Nat} (hx : x < 6) : RepN Γ ρ K N (u2 I 55 (Γ 1 x) (nI (sDb s x + 1))) R L E El Er (wDb s (va_up (sDb s) x (sDb s x + 1))) := by
  have F : Fr0 ρ ρ K N K N I (u2 I 55 (Γ 1 x) (nI (sDb s x + 1))) R R L L E E El El Er Er [55] [] [] [] [] := ⟨fun _ _ => ⟨rfl, rfl, rfl⟩, fun g2 q2 hg2 _ => by rw [u2_ne _ _ (fun e => hg2 (by rw [e]; exact List.mem_singleton.mpr rfl))], fun _ _ _ _ => rfl, fun _ _ _ => rfl, fun _ _ _ => rfl, fun _ _ _ => rfl, fun _ _ _ => rfl⟩
  have hD : DF K (u2 I 55 (Γ 1 x) (nI (sDb s x + 1))) R L E El Er := DF.pI h.df (by have := (h.sw x hx).2.1; omega)
  exact ⟨hD, h.nt.fr F (by decide) (fun _ _ => List.not_mem_nil), h.dr.fr F (by decide) List.not_mem_nil, (fun y hy => by obtain ⟨a, b1, b2, c1, c2, c3, d1, d2, d3, e1, e2, e3, f1, f2, f3, f4, f5⟩ := h.sw y hy; exact ⟨a, b1, b2, c1, c2, c3, d1, d2, d3, e1, e2, e3, by rw [u2_ne _ _ (by decide)]; exact f1, by rw [u2_ne _ _ (by decide)]; exact f2, by rw [u2_ne _ _ (by decide)]; exact f3, by rw [u2_ne _ _ (by decide)]; exact f4, by by_cases hxy : y = x; (subst hxy; rw [u2_at, if_pos rfl]; show _ = nI (va_up (sDb s) y (sDb s y + 1) y); simp [va_up]); (rw [u2_q _ _ (sw_ne h hx hy hxy), f5]; show nI (sDb s y) = nI (va_up (sDb s) x (sDb s x + 1) y); simp [va_up, hxy])⟩), h.en.fr F (fun x hx => by have := (h.sw x hx).2.2.2.2.2.2.1; omega) (fun g h1 h2 hm => by simp only [List.mem_cons, List.not_mem_nil, or_false] at hm; omega) (fun x hx => List.not_mem_nil), h.dk.fr F (fun x hx => by have := (h.sw x hx).2.2.2.2.2.2.2.2.2.1; omega) (fun _ _ => List.not_mem_nil), h.hl.fr F (by decide) (by decide), h.li.fr F (by have := h.nt.2.2.2.2.2.2.2.2.2.2.1; omega) (by decide) (by decide) (List.not_mem_nil), h.ci.fr F (fun g h1 h2 hm => by simp only [List.mem_cons, List.not_mem_nil, or_false] at hm; omega) (fun _ _ _ => List.not_mem_nil), h.qu.fr F (fun c hc hs => by have := (h.ci c hc hs).2.2.2.2.2.1; omega) (by decide) (by decide) (fun c hc hs => List.not_mem_nil), h.ri.fr F (by decide) (by decide) (fun c hc hs => ⟨List.not_mem_nil, List.not_mem_nil⟩), h.mg.fr F (by have := h.nt.2.2.2.2.2.2.2.2.2.2.2.2.1; omega) (by decide) (by decide) (fun _ _ => ⟨List.not_mem_nil, List.not_mem_nil⟩) List.not_mem_nil⟩
theorem RepN.cm (h : RepN Γ ρ K N I R L E El Er s) {i v : Nat} {m : Nat × List (List Nat) × Nat × Nat} (hm : (sMs s)[i]? = some m) : RepN Γ ρ K N (u2 I 46 (Γ 14 (i + 1)) (nI v)) R L E El Er (wCm s (va_up (sCm s) (i + 1) v)) := by
  have F : Fr0 ρ ρ K N K N I (u2 I 46 (Γ 14 (i + 1)) (nI v)) R R L L E E El El Er Er [46] [] [] [] [] := ⟨fun _ _ => ⟨rfl, rfl, rfl⟩, fun g2 q2 hg2 _ => by rw [u2_ne _ _ (fun e => hg2 (by rw [e]; exact List.mem_singleton.mpr rfl))], fun _ _ _ _ => rfl, fun _ _ _ => rfl, fun _ _ _ => rfl, fun _ _ _ => rfl, fun _ _ _ => rfl⟩
  have hD : DF K (u2 I 46 (Γ 14 (i + 1)) (nI v)) R L E El Er := DF.pI h.df (by have := (h.mg i m hm).2.1; omega)
  exact ⟨hD, h.nt.fr F (by decide) (fun _ _ => List.not_mem_nil), h.dr.fr F (by decide) List.not_mem_nil, h.sw.fr F (by have := h.nt.2.2.2.2.2.2.2.2.1; omega) (fun g h1 h2 hm => by simp only [List.mem_cons, List.not_mem_nil, or_false] at hm; omega) (fun _ _ _ => List.not_mem_nil) List.not_mem_nil, h.en.fr F (fun x hx => by have := (h.sw x hx).2.2.2.2.2.2.1; omega) (fun g h1 h2 hm => by simp only [List.mem_cons, List.not_mem_nil, or_false] at hm; omega) (fun x hx => List.not_mem_nil), h.dk.fr F (fun x hx => by have := (h.sw x hx).2.2.2.2.2.2.2.2.2.1; omega) (fun _ _ => List.not_mem_nil), h.hl.fr F (by decide) (by decide), h.li.fr F (by have := h.nt.2.2.2.2.2.2.2.2.2.2.1; omega) (by decide) (by decide) (List.not_mem_nil), h.ci.fr F (fun g h1 h2 hm => by simp only [List.mem_cons, List.not_mem_nil, or_false] at hm; omega) (fun _ _ _ => List.not_mem_nil), h.qu.fr F (fun c hc hs => by have := (h.ci c hc hs).2.2.2.2.2.1; omega) (by decide) (by decide) (fun c hc hs => List.not_mem_nil), h.ri.fr F (by decide) (by decide) (fun c hc hs => ⟨List.not_mem_nil, List.not_mem_nil⟩), (fun j m2 hm2 => by obtain ⟨aa, a1, a2, b1, b2, c1, c2, c3, d1, d2, d3, e1, e2, e3, f1, f2⟩ := h.mg j m2 hm2; exact ⟨aa, a1, a2, b1, b2, by rw [u2_ne _ _ (by decide)]; exact c1, by by_cases hji : j = i; (subst hji; rw [u2_at, if_pos rfl]; show _ = nI (va_up (sCm s) (j + 1) v (j + 1)); simp [va_up]); (rw [u2_q _ _ (mg_ne h hm hm2 hji), c2]; show nI (sCm s (j + 1)) = nI (va_up (sCm s) (i + 1) v (j + 1)); simp [va_up, hji]), by rw [u2_ne _ _ (by decide)]; exact c3, d1, d2, d3, e1, e2, e3, f1, f2⟩)⟩
theorem dk_key : ∀ b0 b1 b2 b3 b4 b5 : Bool, ∀ x, x < 6 → Nat.testBit ((if b0 then 1 else 0) + (if b1 then 2 else 0) + (if b2 then 4 else 0) + (if b3 then 8 else 0) + (if b4 then 16 else 0) + (if b5 then 32 else 0)) x = [b0, b1, b2, b3, b4, b5].getD x false := by decide +kernel
theorem dkB_eq (dk : Nat → List Nat) (m : Nat) : dkB dk m = (if decide (m ∈ dk 0) then 1 else 0) + (if decide (m ∈ dk 1) then 2 else 0) + (if decide (m ∈ dk 2) then 4 else 0) + (if decide (m ∈ dk 3) then 8 else 0) + (if decide (m ∈ dk 4) then 16 else 0) + (if decide (m ∈ dk 5) then 32 else 0) := by
  simp [dkB, sumN, List.range, List.range.loop]
  omega
theorem dkB_bit (dk : Nat → List Nat) (m : Nat) {x : Nat} (hx : x < 6) : (dkB dk m).testBit x = decide (m ∈ dk x) := by
  rw [dkB_eq, dk_key _ _ _ _ _ _ x hx]
  match x, hx with
  | 0, _ => rfl
  | 1, _ => rfl
  | 2, _ => rfl
  | 3, _ => rfl
  | 4, _ => rfl
  | 5, _ => rfl
theorem dkB_lt (dk : Nat → List Nat) (m : Nat) : dkB dk m < 64 := by
  rw [dkB_eq]
  repeat' split
  all_goals omega
theorem dkB_up {dk : Nat → List Nat} {m x : Nat} (hx : x < 6) (hm : m ∉ dk x) : dkB (va_up dk x (dk x ++ [m])) m = dkB dk m + 2 ^ x := by
  have h1 : dkB (va_up dk x (dk x ++ [m])) m = sumN 6 (va_up (fun y => if m ∈ dk y then 2 ^ y else 0) x (2 ^ x)) := by
    unfold dkB
    refine sumN_congr (fun i _ => ?_)
    by_cases hi : i = x
    · subst hi
      simp [va_up]
    · simp [va_up, hi]
  have h2 := sumN_up (n := 6) (v := 2 ^ x) (f := fun y => if m ∈ dk y then 2 ^ y else 0) hx
  rw [h1]
  simp only [hm, if_false] at h2
  unfold dkB
  omega
theorem dkB_ot {dk : Nat → List Nat} {m m2 x : Nat} (hne : m2 ≠ m) : dkB (va_up dk x (dk x ++ [m])) m2 = dkB dk m2 := by
  unfold dkB
  refine sumN_congr (fun i _ => ?_)
  by_cases hi : i = x
  · subst hi
    simp [va_up, hne]
  · simp [va_up, hi]
theorem RepN.desk (h : RepN Γ ρ K N I R L E El Er s) {i x : Nat} {m : Nat × List (List Nat) × Nat × Nat} (hx : x < 6) (hm : (sMs s)[i]? = some m) (hn : i + 1 ∉ sDk s x) : RepN Γ ρ K N (u2 (u2 I 47 (Γ 14 (i + 1)) (nI (dkB (sDk s) (i + 1) + 2 ^ x))) 52 (Γ 1 x) (nI ((sDk s x).length + 1))) R L E El (u2r Er (Γ 3 x) (sDk s x).length (some (Γ 14 (i + 1)))) (wDk s (va_up (sDk s) x (sDk s x ++ [i + 1]))) := by
  have k3 := (h.sw x hx).2.2.2.2.2.2.2.2.2.1
  have p3 := (h.sw x hx).2.2.2.2.2.2.2.2.2.2.2.1
  have F : Fr0 ρ ρ K N K N I (u2 (u2 I 47 (Γ 14 (i + 1)) (nI (dkB (sDk s) (i + 1) + 2 ^ x))) 52 (Γ 1 x) (nI ((sDk s x).length + 1))) R R L L E E El El Er (u2r Er (Γ 3 x) (sDk s x).length (some (Γ 14 (i + 1)))) [47, 52] [] [] [] [Γ 3 x] :=
    ⟨fun _ _ => ⟨rfl, rfl, rfl⟩, fun g2 q2 hg2 _ => by rw [u2_ne _ _ (fun e => hg2 (by rw [e]; decide)), u2_ne _ _ (fun e => hg2 (by rw [e]; decide))], fun _ _ _ _ => rfl, fun _ _ _ => rfl, fun _ _ _ => rfl, fun _ _ _ => rfl, fun q hq _ => u2r_ne _ _ (fun e => hq (by rw [e]; exact List.mem_singleton.mpr rfl))⟩
  have hD : DF K (u2 (u2 I 47 (Γ 14 (i + 1)) (nI (dkB (sDk s) (i + 1) + 2 ^ x))) 52 (Γ 1 x) (nI ((sDk s x).length + 1))) R L E El (u2r Er (Γ 3 x) (sDk s x).length (some (Γ 14 (i + 1)))) := DF.pEr (DF.pI (DF.pI h.df (by have := (h.mg i m hm).2.1; omega)) (by have := (h.sw x hx).2.1; omega)) (by omega)
  have mE : ∀ q t, K q = 20 + t → t ≠ 7 → q ∉ [Γ 3 x] := fun q t hq ht hm => by rw [List.mem_singleton.mp hm] at hq; omega
  have m6 : Γ 0 6 ∉ [Γ 3 x] := fun hm => by have a := h.nt.2.2.2.2.2.2.2.2.2.2.2.2.2.2.1; rw [List.mem_singleton.mp hm, p3] at a; omega
  have mR : ∀ c, c < 16 → (sLn s (c / 2)).isSome = true → Γ 11 c ∉ [Γ 3 x] ∧ Γ 13 c ∉ [Γ 3 x] := fun c hc hs => by
    obtain ⟨-, -, -, -, ⟨p5, f5, -⟩, ⟨p6, f6, -⟩⟩ := h.ri c hc hs
    exact ⟨mE _ 5 f5.2.1 (by decide), mE _ 5 f6.2.1 (by decide)⟩
  have hdk : RDkN Γ (u2r Er (Γ 3 x) (sDk s x).length (some (Γ 14 (i + 1)))) (wDk s (va_up (sDk s) x (sDk s x ++ [i + 1]))) := by
    intro y hy k m2 hk
    by_cases hxy : y = x
    · subst hxy
      have e : sDk (wDk s (va_up (sDk s) y (sDk s y ++ [i + 1]))) y = sDk s y ++ [i + 1] := by
        show va_up (sDk s) y (sDk s y ++ [i + 1]) y = _
        simp [va_up]
      rw [e] at hk
      rw [u2r_at]
      by_cases hkl : k = (sDk s y).length
      · rw [if_pos hkl]
        rw [hkl] at hk
        simp at hk
        rw [hk]
      · rw [if_neg hkl]
        rw [List.getElem?_append_left (by have := (List.getElem?_eq_some_iff.mp hk).1; rw [List.length_append, List.length_singleton] at this; omega)] at hk
        exact h.dk y hy k m2 hk
    · have e : sDk (wDk s (va_up (sDk s) x (sDk s x ++ [i + 1]))) y = sDk s y := by
        show va_up (sDk s) x (sDk s x ++ [i + 1]) y = _
        simp [va_up, hxy]
      rw [e] at hk
      rw [u2r_ne _ _ (fun e => by have a := (h.sw x hx).2.2.2.2.2.2.2.2.2.2.2.1; rw [← e, (h.sw y hy).2.2.2.2.2.2.2.2.2.2.2.1] at a; omega)]
      exact h.dk y hy k m2 hk
  have hsw : RSw Γ ρ K N (u2 (u2 I 47 (Γ 14 (i + 1)) (nI (dkB (sDk s) (i + 1) + 2 ^ x))) 52 (Γ 1 x) (nI ((sDk s x).length + 1))) R (u2r Er (Γ 3 x) (sDk s x).length (some (Γ 14 (i + 1)))) (wDk s (va_up (sDk s) x (sDk s x ++ [i + 1]))) := by
    intro y hy
    obtain ⟨a, b1, b2, c1, c2, c3, d1, d2, d3, e1, e2, e3, f1, f2, f3, f4, f5⟩ := h.sw y hy
    have k4 : K (Γ 0 4) ≠ 0 := by have := h.nt.2.2.2.2.2.2.2.2.1; omega
    refine ⟨F.er (mE _ 8 h.nt.2.2.2.2.2.2.2.2.1 (by decide)) k4 a, b1, b2, c1, c2, c3, d1, d2, d3, e1, e2, e3, by rw [u2_ne _ _ (by decide), u2_ne _ _ (by decide)]; exact f1, ?_, by rw [u2_ne _ _ (by decide), u2_ne _ _ (by decide)]; exact f3, by rw [u2_ne _ _ (by decide), u2_ne _ _ (by decide)]; exact f4, by rw [u2_ne _ _ (by decide), u2_ne _ _ (by decide)]; exact f5⟩
    by_cases hxy : y = x
    · subst hxy
      rw [u2_at, if_pos rfl]
      show _ = nI (va_up (sDk s) y (sDk s y ++ [i + 1]) y).length
      simp [va_up]
    · rw [u2_q _ _ (sw_ne h hx hy hxy), u2_ne _ _ (by decide), f2]
      show nI (sDk s y).length = nI (va_up (sDk s) x (sDk s x ++ [i + 1]) y).length
      simp [va_up, hxy]
  have hmg : RMg Γ ρ K N (u2 (u2 I 47 (Γ 14 (i + 1)) (nI (dkB (sDk s) (i + 1) + 2 ^ x))) 52 (Γ 1 x) (nI ((sDk s x).length + 1))) R E El (u2r Er (Γ 3 x) (sDk s x).length (some (Γ 14 (i + 1)))) (wDk s (va_up (sDk s) x (sDk s x ++ [i + 1]))) := by
    intro j m2 hm2
    obtain ⟨aa, a1, a2, b1, b2, c1, c2, c3, d1, d2, d3, e1, e2, e3, f1, f2⟩ := h.mg j m2 hm2
    have k6 : K (Γ 0 6) ≠ 0 := by have := h.nt.2.2.2.2.2.2.2.2.2.2.2.2.1; omega
    refine ⟨F.er m6 k6 aa, a1, a2, b1, b2, by rw [u2_ne _ _ (by decide), u2_ne _ _ (by decide)]; exact c1, by rw [u2_ne _ _ (by decide), u2_ne _ _ (by decide)]; exact c2, ?_, d1, d2, d3, e1, e2, e3, f1, f2⟩
    rw [u2_ne _ _ (by decide)]
    by_cases hji : j = i
    · subst hji
      rw [u2_at, if_pos rfl]
      show _ = nI (dkB (va_up (sDk s) x (sDk s x ++ [j + 1])) (j + 1))
      rw [dkB_up hx hn]
    · rw [u2_q _ _ (mg_ne h hm hm2 hji), c3]
      show _ = nI (dkB (va_up (sDk s) x (sDk s x ++ [i + 1])) (j + 1))
      rw [dkB_ot (by omega)]
  exact ⟨hD, h.nt.fr F (by decide) (fun _ _ => List.not_mem_nil), h.dr.fr F (by decide) List.not_mem_nil, hsw, h.en.fr F (fun x hx => by have := (h.sw x hx).2.2.2.2.2.2.1; omega) (fun g h1 h2 hm => by simp only [List.mem_cons, List.not_mem_nil, or_false] at hm; omega) (fun x hx => mE _ 6 (h.sw x hx).2.2.2.2.2.2.1 (by decide)), hdk, h.hl.fr F (by decide) (by decide), h.li.fr F (by have := h.nt.2.2.2.2.2.2.2.2.2.2.1; omega) (by decide) (by decide) (mE _ 9 h.nt.2.2.2.2.2.2.2.2.2.2.1 (by decide)), h.ci.fr F (fun g h1 h2 hm => by simp only [List.mem_cons, List.not_mem_nil, or_false] at hm; omega) (fun _ _ _ => List.not_mem_nil), h.qu.fr F (fun c hc hs => by have := (h.ci c hc hs).2.2.2.2.2.1; omega) (by decide) (by decide) (fun c hc hs => mE _ 4 (h.ci c hc hs).2.2.2.2.2.1 (by decide)), h.ri.fr F (by decide) (by decide) (fun c hc hs => (mR c hc hs)), hmg⟩
/-- the parts that the object keeps for its calls -/
theorem RepN.parts (h : RepN Γ ρ K N I R L E El Er s) {E' : Nat → Nat → Int32} (hE : ∀ q, q ≠ Γ 0 7 → E' q = E q) : RepN Γ ρ K N I R L E' El Er s := by
  have k7 := h.nt.2.2.2.2.2.2.2.2.2.2.2.2.2.2.2.1
  have F : Fr0 ρ ρ K N K N I I R R L L E E' El El Er Er [] [] [Γ 0 7] [] [] :=
    ⟨fun _ _ => ⟨rfl, rfl, rfl⟩, fun _ _ _ _ => rfl, fun _ _ _ _ => rfl, fun _ _ _ => rfl, fun q hq _ => hE q (fun e => hq (by rw [e]; exact List.mem_singleton.mpr rfl)), fun _ _ _ => rfl, fun _ _ _ => rfl⟩
  have hD : DF K I R L E' El Er := fun q hq => by
    obtain ⟨a, b, c, d, e, f⟩ := h.df q hq
    exact ⟨a, b, c, fun i => by rw [hE q (fun e => by rw [e] at hq; omega)]; exact d i, e, f⟩
  exact ⟨hD, h.nt, h.dr.fr F (by decide) (fun hm => by have := h.dr.2.1; rw [List.mem_singleton.mp hm] at this; omega), h.sw, h.en, h.dk, h.hl, h.li, h.ci, h.qu, h.ri, h.mg.fr F (by have := h.nt.2.2.2.2.2.2.2.2.2.2.2.2.1; omega) (by decide) (by decide) (fun i hi => ⟨fun hm => by obtain ⟨m, hm2⟩ := get_of hi; have := (h.mg i m hm2).2.2.2.2.2.2.2.2.1; rw [List.mem_singleton.mp hm] at this; omega, List.not_mem_nil⟩) List.not_mem_nil⟩
end Sw2
