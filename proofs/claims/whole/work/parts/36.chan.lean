/-! channels in the arrays -/
section Chan
abbrev RC (b : Bool) (d : Ch) (c : Nat) (M : Nat → Nat → Int32) : Prop := RC1 b d c (M 24) (M 25) (M 26) (M 27) (M 28) (M 29) (M 30) (M 31) (M 32)
/-- the arrays differ at most in channel c -/
def agr (c : Nat) (M M' : Nat → Nat → Int32) : Prop := (∀ a, a ≤ 23 ∨ 32 < a → M' a = M a) ∧ (∀ a, a ≠ 27 → a ≠ 29 → ∀ i, i ≠ c → M' a i = M a i) ∧ (∀ i, i < 20 * c ∨ 20 * c + 20 ≤ i → M' 27 i = M 27 i) ∧ (∀ i, i < 200 * c ∨ 200 * c + 200 ≤ i → M' 29 i = M 29 i)
theorem agr_refl (c : Nat) (M : Nat → Nat → Int32) : agr c M M := ⟨fun _ _ => rfl, fun _ _ _ _ _ => rfl, fun _ _ => rfl, fun _ _ => rfl⟩
theorem agr.trans {c : Nat} {M M1 M2 : Nat → Nat → Int32} (h : agr c M M1) (g : agr c M1 M2) : agr c M M2 :=
  ⟨fun a ha => (g.1 a ha).trans (h.1 a ha), fun a x z i hi => (g.2.1 a x z i hi).trans (h.2.1 a x z i hi), fun i hi => (g.2.2.1 i hi).trans (h.2.2.1 i hi), fun i hi => (g.2.2.2 i hi).trans (h.2.2.2 i hi)⟩
theorem agr_u2 {c j i : Nat} {M : Nat → Nat → Int32} {x : Int32} (hj : 24 ≤ j ∧ j ≤ 32) (hi : (j ≠ 27 → j ≠ 29 → i = c) ∧ (j = 27 → 20 * c ≤ i ∧ i < 20 * c + 20) ∧ (j = 29 → 200 * c ≤ i ∧ i < 200 * c + 200)) : agr c M (u2 M j i x) := by
  refine ⟨fun a ha => u2_ne _ _ (by omega), fun a h1 h2 q hq => ?_, fun q hq => ?_, fun q hq => ?_⟩
  · by_cases h : a = j
    · subst h
      rw [u2_at, if_neg (by have := hi.1 h1 h2; omega)]
    · rw [u2_ne _ _ h]
  · by_cases h : 27 = j
    · subst h
      rw [u2_at, if_neg (by have := hi.2.1 rfl; omega)]
    · rw [u2_ne _ _ h]
  · by_cases h : 29 = j
    · subst h
      rw [u2_at, if_neg (by have := hi.2.2 rfl; omega)]
    · rw [u2_ne _ _ h]
theorem RC_agr {b : Bool} {d : Ch} {c c' : Nat} {M M' : Nat → Nat → Int32} (hcc : c' ≠ c) (hk : cKept d ≤ 20) (hw : (cWire d).length ≤ 200) (ha : agr c M M') (h : RC b d c' M) : RC b d c' M' := by
  obtain ⟨h1, h2, h3, h4, h5, h6, h7⟩ := h
  refine ⟨fun hb => ?_, ?_, fun k x hk' hx => ?_, ?_, fun k f hf => ?_, ?_, ?_⟩
  · rw [ha.2.1 24 (by decide) (by decide) c' hcc, ha.2.1 25 (by decide) (by decide) c' hcc]
    exact h1 hb
  · rw [ha.2.1 26 (by decide) (by decide) c' hcc]
    exact h2
  · rw [ha.2.2.1 _ (by omega)]
    exact h3 k x hk' hx
  · rw [ha.2.1 28 (by decide) (by decide) c' hcc]
    exact h4
  · have hk2 : k < (cWire d).length := (List.getElem?_eq_some_iff.mp hf).1
    rw [ha.2.2.2 _ (by omega)]
    exact h5 k f hf
  · rw [ha.2.1 30 (by decide) (by decide) c' hcc]
    exact h6
  · rw [ha.2.1 31 (by decide) (by decide) c' hcc, ha.2.1 32 (by decide) (by decide) c' hcc]
    exact h7
/-- one channel anew -/
theorem rep_ch {s : Sa} {Fi : Nat → Int32} {M M' : Nat → Nat → Int32} {Ml : Nat → Nat → Int64} {c : Nat} {d : Ch} (hR : RepM s Fi M Ml) (hB : ∀ c, cKept (sCh s c) ≤ 20 ∧ (cWire (sCh s c)).length ≤ 200) (ha : agr c M M') (hd : RC (sLn s (c / 2)).isSome d c M') : RepM (ch1 s c d) Fi M' Ml := by
  obtain ⟨r1, r2, r3, r4, r5, r6, r7, r8, r9, r10, r11⟩ := hR
  have e : ∀ a, a ≤ 23 ∨ 32 < a → M' a = M a := ha.1
  refine ⟨r1, ?_, ?_, ?_, ?_, ?_, ?_, ?_, ?_, ?_, ?_⟩
  · rw [e 3 (by decide), e 4 (by decide), e 5 (by decide)]; exact r2
  · rw [e 6 (by decide), e 7 (by decide), e 8 (by decide), e 9 (by decide)]; exact r3
  · rw [e 10 (by decide), e 12 (by decide), e 13 (by decide), e 14 (by decide)]; exact r4
  · rw [e 16 (by decide), e 17 (by decide), e 18 (by decide), e 19 (by decide)]; exact r5
  · rw [e 21 (by decide)]; exact r6
  · rw [e 23 (by decide)]; exact r7
  · intro c' hc'
    by_cases h : c' = c
    · subst h
      show RC1 _ (va_up (sCh s) c' d c') c' _ _ _ _ _ _ _ _ _
      rw [show va_up (sCh s) c' d c' = d by simp [va_up]]
      exact hd
    · show RC1 _ (va_up (sCh s) c d c') c' _ _ _ _ _ _ _ _ _
      rw [show va_up (sCh s) c d c' = sCh s c' by simp [va_up, h]]
      exact RC_agr h (hB c').1 (hB c').2 ha (r8 c' hc')
  · rw [e 33 (by decide)]; exact r9
  · rw [e 34 (by decide)]; exact r10
  · rw [e 35 (by decide), e 36 (by decide)]; exact r11
def bCh (d : Ch) : Prop := cKept d ≤ 20 ∧ cKept d ≤ (cSent d).length ∧ (cSent d).length ≤ 512 ∧ (∀ x ∈ cSent d, (1 ≤ x.1 ∧ x.1 ≤ 200) ∧ x.2 < 128) ∧ (1 ≤ cExp d ∧ cExp d ≤ 513) ∧ (cWire d).length ≤ 200 ∧ ∀ f ∈ cWire d, f.1 < 3 ∧ 1 ≤ f.2 ∧ f.2 ≤ 999 ∧ (f.1 = 0 → f.2 ≤ (cSent d).length)
theorem agr_lay {c n e : Nat} {M : Nat → Nat → Int32} (hn : n ≤ 200) : agr c M (layM M c n e) := by
  unfold layM
  split
  · exact agr_refl c M
  · refine agr.trans (agr_u2 (j := 29) (by decide) ⟨fun _ h => absurd rfl h, fun h => absurd h (by decide), fun _ => by omega⟩) (agr_u2 (j := 28) (by decide) ⟨fun _ _ => rfl, fun h => absurd h (by decide), fun h => absurd h (by decide)⟩)
theorem RC_lay {b : Bool} {d : Ch} {c : Nat} {M : Nat → Nat → Int32} {f : Nat × Nat} (hw : (cWire d).length ≤ 200) (h : RC b d c M) : RC b (layC d f) c (layM M c (cWire d).length (encF (cSent d) f)) := by
  by_cases hn : (cWire d).length = 200
  · simp only [layC, layM, hn, if_true]
    exact h
  · have e1 : layC d f = (cSent d, cKept d, cExp d, cWire d ++ [f], cPut d, cAsk d) := by simp [layC, hn]
    have e2 : layM M c (cWire d).length (encF (cSent d) f) = u2 (u2 M 29 (200 * c + (cWire d).length) (nI (encF (cSent d) f))) 28 c (nI ((cWire d).length + 1)) := by simp [layM, hn]
    rw [e1, e2]
    obtain ⟨h1, h2, h3, h4, h5, h6, h7⟩ := h
    refine ⟨h1, h2, h3, ?_, fun k g hg => ?_, h6, h7⟩
    · rw [u2_at, if_pos rfl]
      exact congrArg nI (List.length_append (as := cWire d) (bs := [f])).symm
    · rw [u2_ne _ _ (by decide), u2_at]
      by_cases hk : k = (cWire d).length
      · subst hk
        rw [if_pos rfl]
        have hg2 : (cWire d ++ [f])[(cWire d).length]? = some g := hg
        simp at hg2
        rw [← hg2]
      · have hlt : k < (cWire d).length := by
          have : k < (cWire d ++ [f]).length := (List.getElem?_eq_some_iff.mp hg).1
          simp at this
          omega
        rw [if_neg (by omega)]
        rw [show (cWire (cSent d, cKept d, cExp d, cWire d ++ [f], cPut d, cAsk d)) = cWire d ++ [f] from rfl, List.getElem?_append_left hlt] at hg
        exact h5 k g hg
theorem RC_put {b : Bool} {d : Ch} {c mi : Nat} {M : Nat → Nat → Int32} (h : RC b d c M) : RC b (cSent d, cKept d, cExp d, cWire d, mi, cAsk d) c (u2 M 30 c (nI mi)) := by
  obtain ⟨h1, h2, h3, h4, h5, h6, h7⟩ := h
  exact ⟨h1, h2, h3, h4, h5, by rw [u2_at, if_pos rfl], h7⟩
def layKM (M : Nat → Nat → Int32) (c : Nat) (d : Ch) (k mi : Nat) : Nat → Nat → Int32 := u2 (layM M c (cWire d).length (encF (cSent d) (0, (cSent d).length - cKept d + k + 1))) 30 c (nI mi)
theorem RC_layKept {b : Bool} {d : Ch} {c k mi : Nat} {M : Nat → Nat → Int32} (hw : (cWire d).length ≤ 200) (h : RC b d c M) : RC b (layKeptC d k mi) c (layKM M c d k mi) := RC_put (RC_lay hw h)
theorem agr_layK {d : Ch} {c k mi : Nat} {M : Nat → Nat → Int32} (hw : (cWire d).length ≤ 200) : agr c M (layKM M c d k mi) :=
  agr.trans (agr_lay hw) (agr_u2 (j := 30) (by decide) ⟨fun _ _ => rfl, fun h => absurd h (by decide), fun h => absurd h (by decide)⟩)
theorem encK_lt {k se m set : Nat} (hk : k < 3) (hs : se < 2 ^ 12) (hm : m < 2 ^ 8) (ht : set < 2 ^ 8) : encK k se m set < 2 ^ 30 ∧ encK k se m set / 2 ^ 28 = k ∧ encK k se m set / 2 ^ 16 % 2 ^ 12 = se ∧ encK k se m set / 2 ^ 8 % 2 ^ 8 = m ∧ encK k se m set % 2 ^ 8 = set := by
  unfold encK
  omega
theorem sent_at {d : Ch} (hb : bCh d) {k : Nat} (hk : k < cKept d) : ∃ x, (cSent d)[(cSent d).length - cKept d + k]? = some x ∧ ((1 ≤ x.1 ∧ x.1 ≤ 200) ∧ x.2 < 128) ∧ (cSent d).getD ((cSent d).length - cKept d + k) (0, 0) = x := by
  have hlt : (cSent d).length - cKept d + k < (cSent d).length := by have := hb.2.1; omega
  exact ⟨_, List.getElem?_eq_getElem hlt, hb.2.2.2.1 _ (List.getElem_mem hlt), by rw [List.getD_eq_getElem?_getD, List.getElem?_eq_getElem hlt]; rfl⟩
theorem layC_b {d : Ch} {f : Nat × Nat} (hb : bCh d) (hf : f.1 < 3 ∧ 1 ≤ f.2 ∧ f.2 ≤ 999 ∧ (f.1 = 0 → f.2 ≤ (cSent d).length)) : bCh (layC d f) := by
  unfold layC
  split
  · exact hb
  · rename_i hn
    obtain ⟨h1, h2, h3, h4, h5, h6, h7⟩ := hb
    refine ⟨h1, h2, h3, h4, h5, ?_, fun g hg => ?_⟩
    · show (cWire d ++ [f]).length ≤ 200
      simp
      omega
    · rcases List.mem_append.mp hg with hg | hg
      · exact h7 g hg
      · rw [List.mem_singleton.mp hg]; exact hf
theorem layKeptC_b {d : Ch} {k mi : Nat} (hb : bCh d) (hk : k < cKept d) : bCh (layKeptC d k mi) := by
  have := hb.2.1
  have := hb.2.2.1
  exact layC_b (f := (0, (cSent d).length - cKept d + k + 1)) hb ⟨by show (0 : Nat) < 3; omega, by show 1 ≤ _ + 1; omega, by show (cSent d).length - cKept d + k + 1 ≤ 999; omega, fun _ => by show (cSent d).length - cKept d + k + 1 ≤ _; omega⟩
theorem layC_sent (d : Ch) (f : Nat × Nat) : cSent (layC d f) = cSent d ∧ cKept (layC d f) = cKept d ∧ cExp (layC d f) = cExp d ∧ cPut (layC d f) = cPut d ∧ cAsk (layC d f) = cAsk d := by
  unfold layC
  split <;> exact ⟨rfl, rfl, rfl, rfl, rfl⟩
theorem layKeptC_sent (d : Ch) (k mi : Nat) : cSent (layKeptC d k mi) = cSent d ∧ cKept (layKeptC d k mi) = cKept d ∧ cExp (layKeptC d k mi) = cExp d ∧ cPut (layKeptC d k mi) = mi ∧ cAsk (layKeptC d k mi) = cAsk d := by
  have h := layC_sent d (0, (cSent d).length - cKept d + k + 1)
  exact ⟨h.1, h.2.1, h.2.2.1, rfl, h.2.2.2.2⟩
theorem c_Mod_layKeptS {G : Gt} {o : Nat} {A : Nat → Nat} {Fi : Nat → Int32} {M : Nat → Nat → Int32} {Ml : Nat → Nat → Int64} (hI : mInj o A) {c k mi : Nat} {d : Ch} (hc : c < 16) (hb : bCh d) (hd : RC true d c M) (hk : k < cKept d) (hmi : Fi 1 = nI mi) : CallR G m_Mod_layKept 1 17 [.ref o, .int (nI c), .int (nI k)] (hM o A Fi M Ml) 0 0 none (hM o A Fi (layKM M c d k mi) Ml) := by
  obtain ⟨x, hx, hx2, hx3⟩ := sent_at hb hk
  refine CallR.eq (c_Mod_layKept hI hc hd.2.2.2.1 hb.2.2.2.2.2.1 (hd.1 rfl).1 (by have := hb.2.2.1; omega) hd.2.1 ⟨hb.1, hb.2.1⟩ hk (hd.2.2.1 k x hk hx) (by omega) hmi) rfl ?_
  unfold layKM encF
  rw [if_pos rfl, show (cSent d).length - cKept d + k + 1 - 1 = (cSent d).length - cKept d + k by omega, hx3, show (x.1 * 2 ^ 8 + x.2) / 2 ^ 8 = x.1 by omega, show (x.1 * 2 ^ 8 + x.2) % 2 ^ 8 = x.2 by omega]
theorem Inv.bCh {n : Nat} {s : Sa} (h : Inv n s) (c : Nat) : bCh (sCh s c) := by
  obtain ⟨h1, h2, h3, h4, h5, h6, h7, h8, _⟩ := h.2.2.1.2.2.2.1 c
  have hn := h.1
  have hms := h.2.1.2.2.2.2.2.2
  refine ⟨h1, h2, by omega, fun x hx => ?_, ⟨h5, by omega⟩, h7, h8⟩
  obtain ⟨⟨q1, q2, q3⟩, _⟩ := h4 x hx
  have hlt : x.1 - 1 < (sMs s).length := by omega
  have hcnt : cntOf s x.1 ≤ 7 := by
    unfold cntOf
    rw [List.getD_eq_getElem?_getD, List.getElem?_eq_getElem hlt]
    exact (hms.2 _ (List.getElem_mem hlt)).2.2.1
  exact ⟨⟨q1, by omega⟩, Nat.lt_of_lt_of_le q3 (Nat.pow_le_pow_right (n := 2) (by decide) hcnt)⟩
end Chan
