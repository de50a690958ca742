section Cls28
theorem releaseN_hl {n x : Nat} (hx : x < 6) {y : Nat} (hy : y ≠ x) : ∀ (k : Nat) {s : Sa}, Inv n s → hlF (releaseN x k s) y = hlF s y
  | 0, s, _ => rfl
  | k + 1, s, h => by
    cases hi : (sCp s).findIdx? (fun c => c.1 == 16 + x) with
    | none => rw [releaseN_s, hi]
    | some i =>
      obtain ⟨c, g1, g2, g3, g4⟩ := findIdx_get hi
      rw [release_s hi g3, releaseN_hl hx hy k (comes_again h hx g1)]
      have okc := h.2.2.1.2.2.1 c (List.mem_of_getElem? g1)
      have hB := erase_B (i := i) h.B
      rw [(comesS_hl (x := x) (set := c.2.2.1) (by1 := c.2.2.2) hB.CI ⟨okc.2.2.1.1, okc.2.2.1.2.1⟩).2 y hy]
      exact flt_erase g1 (by have := beq_iff_eq.mp g2; simp; omega)
theorem phi_two {a b : Nat} (h : a ≠ b) : ∀ l : List Cy, phiCp (l.filter fun c => c.1 == 16 + a) + phiCp (l.filter fun c => c.1 == 16 + b) ≤ phiCp l
  | [] => Nat.le_refl _
  | c :: l => by
    have ih := phi_two h l
    rw [List.filter_cons, List.filter_cons, phiCp_cons]
    by_cases h1 : c.1 = 16 + a
    · rw [if_pos (beq_iff_eq.mpr h1), if_neg (by rw [beq_iff_eq]; omega), phiCp_cons]
      omega
    · rw [if_neg (by rw [beq_iff_eq]; exact h1)]
      by_cases h2 : c.1 = 16 + b
      · rw [if_pos (beq_iff_eq.mpr h2), phiCp_cons]
        omega
      · rw [if_neg (by rw [beq_iff_eq]; exact h2)]
        omega
theorem srv1_true {n : Nat} {s : Sa} (hV : Inv n s) {j a b : Nat} (hv : sLn s j = some (a, b, false)) : srv1 s j true a b = (wLn s (va_up (sLn s) j (some (a, b, true)))) := by
  have w0 : ∀ c, c / 2 = j → wWire (sCh s c) [] = sCh s c := fun c hc => by
    have := (hV.2.2.1.2.2.2.1 c).2.2.2.2.2.2.2.2.2.2.1 (by rw [hc]; unfold serves; rw [hv])
    unfold wWire
    rw [← this]
  unfold srv1
  rw [w0 (2 * j) (by omega), w0 (2 * j + 1) (by omega)]
  have e1 := ch1_self (wLn s (va_up (sLn s) j (some (a, b, true)))) (2 * j)
  have e2 := ch1_self (wLn s (va_up (sLn s) j (some (a, b, true)))) (2 * j + 1)
  have e1' : ch1 (wLn s (va_up (sLn s) j (some (a, b, true)))) (2 * j) (sCh s (2 * j)) = (wLn s (va_up (sLn s) j (some (a, b, true)))) := e1
  have e2' : ch1 (wLn s (va_up (sLn s) j (some (a, b, true)))) (2 * j + 1) (sCh s (2 * j + 1)) = (wLn s (va_up (sLn s) j (some (a, b, true)))) := e2
  rw [e1', e2']
theorem n_Net_serve {G : Gt} {K N : Nat → Nat} {I : Nat → Nat → Int32} {R : Nat → Nat → Option Nat} {L : Nat → Nat → Int64} {E : Nat → Nat → Int32} {El : Nat → Nat → Int64} {Er : Nat → Nat → Option Nat} {Γ : Gm} {ρ : Nat → Nat} {s : Sa} (hR : RepN Γ ρ K N I R L E El Er s) {n0 : Nat} (hV : Inv n0 s) (l : Int32) (v : Bool) : CallN G m_Net_serve 7 95 [.ref (Γ 0 0), .int l, .int (bI v)] (hN K N I R L E El Er) (7 * (sMs s).length + 1) (28 * (sMs s).length + 6) (stServe s l v) false (Γ 0 0) := by
  unfold stServe
  cases hx : hasB (lnB s) l with
  | false => exact CallN.ofT (c_Net_serveLX hR hx) (by decide) (by decide) (by omega) (by omega) rfl hR.okT
  | true =>
    obtain ⟨j, a, b, w, hl, rfl, hv⟩ := hasB_o hx
    rw [if_pos rfl, nN_nI (by omega), hv]
    dsimp only
    by_cases hwv : w = v
    · subst hwv
      rw [if_pos rfl]
      exact CallN.ofR (c_Net_serve0 hR hl hv) (by decide) (by decide) (by omega) (by omega) rfl hR.ok
    · rw [if_neg hwv, serve_eq]
      cases v with
      | false =>
        obtain rfl : w = true := by cases w <;> simp_all
        rw [if_neg (by decide)]
        exact CallN.ofE (c_Net_serve1 hR hl hv) (by decide) (by decide) (by omega) (by omega) rfl (fun _ z => z.to)
      | true =>
        obtain rfl : w = false := by cases w <;> simp_all
        rw [if_pos rfl, srv1_true hV hv]
        have hV0 : Inv n0 (wLn s (va_up (sLn s) j (some (a, b, true)))) := by
          have := srv1_Inv (v := true) hV hl hv
          rw [srv1_true hV hv] at this
          exact this
        have hab := hV.2.1.2.2.2.1 j a b false hv
        have hV2 : Inv n0 (releaseS (wLn s (va_up (sLn s) j (some (a, b, true)))) a) := releaseN_Inv hab.2.1 _ hV0
        have hva : sLn (wLn s (va_up (sLn s) j (some (a, b, true)))) j = some (a, b, true) := by
          show va_up (sLn s) j (some (a, b, true)) j = _
          simp [va_up]
        have hsl2 : sLn (releaseS (wLn s (va_up (sLn s) j (some (a, b, true)))) a) = sLn (wLn s (va_up (sLn s) j (some (a, b, true)))) := (releaseN_same hab.2.1 _ hV0).1
        have e1 : hlF (releaseS (wLn s (va_up (sLn s) j (some (a, b, true)))) a) b = hlF (wLn s (va_up (sLn s) j (some (a, b, true)))) b := releaseN_hl hab.2.1 (Ne.symm hab.2.2.2) _ hV0
        have e2 : phiCp (hlF (wLn s (va_up (sLn s) j (some (a, b, true)))) a) + phiCp (hlF (wLn s (va_up (sLn s) j (some (a, b, true)))) b) ≤ phiCp (sCp s) := phi_two hab.2.2.2 (sCp s)
        have e3 : phiCp (sCp s) ≤ phi s := by unfold phi; omega
        have e4 := hV.2.2.2
        exact CallN.ofE (c_Net_serve2 hR hl hv hV0 hV2 hva hsl2 hab.2.1 hab.2.2.1) (by decide) (by decide) (by rw [e1]; omega) (by rw [e1]; omega) rfl (fun _ z => z.to)
end Cls28
