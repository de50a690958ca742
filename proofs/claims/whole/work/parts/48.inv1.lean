/-! what holds of every state is kept: the parting of a copy -/
section Inv1
theorem sumN_s (n : Nat) (f : Nat → Nat) : sumN (n + 1) f = sumN n f + f n := by
  unfold sumN
  rw [List.range_succ, List.map_append, List.sum_append]
  simp
theorem sumN_congr {n : Nat} {f g : Nat → Nat} (h : ∀ i, i < n → f i = g i) : sumN n f = sumN n g := by
  induction n with
  | zero => rfl
  | succ n ih => rw [sumN_s, sumN_s, ih (fun i hi => h i (by omega)), h n (by omega)]
theorem sumN_up {n i v : Nat} {f : Nat → Nat} (hi : i < n) : sumN n (va_up f i v) + f i = sumN n f + v := by
  induction n with
  | zero => omega
  | succ n ih =>
    rw [sumN_s, sumN_s]
    by_cases h : i = n
    · subst h
      have e : sumN i (va_up f i v) = sumN i f := sumN_congr (fun j hj => by unfold va_up; rw [if_neg (by omega)])
      rw [e, show va_up f i v i = v by simp [va_up]]
      omega
    · have := ih (by omega)
      rw [show va_up f i v n = f n by unfold va_up; rw [if_neg (by omega)]]
      omega
theorem filter_sum (p : Nat → Bool) : ∀ l : List Nat, (l.filter p).length = (l.map fun k => if p k then 1 else 0).sum
  | [] => rfl
  | a :: l => by
    rw [List.filter_cons, List.map_cons, List.sum_cons, ← filter_sum p l]
    split <;> simp <;> omega
def bitN (x k : Nat) : Nat := if x.testBit k then 1 else 0
theorem pc7_sum (x : Nat) : pc7 x = sumN 7 (bitN x) := filter_sum _ _
theorem pc7_0 : pc7 0 = 0 := by decide
theorem pc7_add {x k : Nat} (hk : k < 7) (h : x.testBit k = false) : pc7 (x + 2 ^ k) = pc7 x + 1 := by
  rw [pc7_sum, pc7_sum, ← or_bit h]
  have e : sumN 7 (bitN (x ||| 2 ^ k)) = sumN 7 (va_up (bitN x) k 1) := sumN_congr (fun i _ => by
    unfold bitN va_up
    rw [Nat.testBit_or, Nat.testBit_two_pow]
    by_cases hi : i = k
    · subst hi
      simp
    · have : ¬ k = i := fun q => hi q.symm
      simp [hi, this])
  have h2 := sumN_up (f := bitN x) (v := 1) hk
  rw [e]
  have h3 : bitN x k = 0 := by unfold bitN; rw [h]; rfl
  omega
theorem pc7_pos {x : Nat} (h : x < 2 ^ 7) (h0 : 0 < x) : 1 ≤ pc7 x := by
  apply Nat.pos_of_ne_zero
  intro hz
  have hall : ∀ k, k < 7 → x.testBit k = false := by
    intro k hk
    cases hb : x.testBit k with
    | false => rfl
    | true =>
      have : k ∈ (List.range 7).filter fun k => x.testBit k := List.mem_filter.mpr ⟨List.mem_range.mpr hk, hb⟩
      rw [List.length_eq_zero_iff.mp hz] at this
      cases this
  have : x = 0 := by
    apply Nat.eq_of_testBit_eq
    intro i
    rw [Nat.zero_testBit]
    rcases Nat.lt_or_ge i 7 with hi | hi
    · exact hall i hi
    · exact Nat.testBit_lt_two_pow (Nat.lt_of_lt_of_le h (Nat.pow_le_pow_right (by decide) hi))
  omega
theorem pc7_all (c : Nat) (hc : c ≤ 7) : pc7 (2 ^ c - 1) ≤ 7 := by
  have := List.length_filter_le (fun k => (2 ^ c - 1).testBit k) (List.range 7)
  rw [List.length_range] at this
  exact this
theorem phiCp_app (a b : List (Nat × Nat × Nat × Nat)) : phiCp (a ++ b) = phiCp a + phiCp b := by
  unfold phiCp
  rw [List.map_append, List.sum_append]
theorem phiCp_share (s : Sa) (x m : Nat) (sh : Nat → Nat) (n : Nat) : phiCp (shareCopies s x m sh n) = sumN n (fun l => pc7 (sh l)) := by
  induction n with
  | zero => rfl
  | succ n ih =>
    rw [share_s, phiCp_app, sumN_s, ih]
    congr 1
    split
    · rename_i h
      rw [h, pc7_0]
      rfl
    · simp [phiCp]
def psiC (u d c h : Nat → Nat) : Nat := sumN 6 u + sumN 6 d + sumN 201 (fun m => pc7 (c m)) + sumN 9 (fun l => pc7 (h l))
def psi (q : Sa × (Nat → Nat)) : Nat := psiC (sUn q.1) (sDb q.1) (sCm q.1) q.2
theorem psi_sh {q : Sa × (Nat → Nat)} {j k : Nat} (hj : j < 9) (hk : k < 7) (h : q.2 j < 2 ^ k) : psi (q.1, va_up q.2 j (q.2 j + 2 ^ k)) = psi q + 1 := by
  show psiC (sUn q.1) (sDb q.1) (sCm q.1) (va_up q.2 j (q.2 j + 2 ^ k)) = psiC (sUn q.1) (sDb q.1) (sCm q.1) q.2 + 1
  unfold psiC
  have e : sumN 9 (fun l => pc7 (va_up q.2 j (q.2 j + 2 ^ k) l)) = sumN 9 (va_up (fun l => pc7 (q.2 l)) j (pc7 (q.2 j) + 1)) := sumN_congr (fun i _ => by
    unfold va_up
    by_cases hi : i = j
    · rw [if_pos hi, if_pos hi, pc7_add hk (Nat.testBit_lt_two_pow h)]
    · rw [if_neg hi, if_neg hi])
  have h2 := sumN_up (f := fun l => pc7 (q.2 l)) (v := pc7 (q.2 j) + 1) hj
  rw [e]
  omega
theorem psi_del {q : Sa × (Nat → Nat)} {x m k : Nat} (hx : x < 6) (hm : m ≤ 200) (hk : k < 7) : psi (deliverS q.1 x m k, q.2) = psi q + 1 := by
  unfold deliverS
  split
  · have h2 := sumN_up (f := sDb q.1) (v := sDb q.1 x + 1) hx
    show psiC (sUn q.1) (va_up (sDb q.1) x (sDb q.1 x + 1)) (sCm q.1) q.2 = psiC (sUn q.1) (sDb q.1) (sCm q.1) q.2 + 1
    unfold psiC
    omega
  · rename_i hb
    have hb2 : (sCm q.1 m).testBit k = false := by simpa using hb
    have e : sumN 201 (fun i => pc7 (va_up (sCm q.1) m (sCm q.1 m + 2 ^ k) i)) = sumN 201 (va_up (fun i => pc7 (sCm q.1 i)) m (pc7 (sCm q.1 m) + 1)) := sumN_congr (fun i _ => by
      unfold va_up
      by_cases hi : i = m
      · rw [if_pos hi, if_pos hi, pc7_add hk hb2]
      · rw [if_neg hi, if_neg hi])
    have h2 := sumN_up (f := fun i => pc7 (sCm q.1 i)) (v := pc7 (sCm q.1 m) + 1) (show m < 201 by omega)
    have key : psiC (sUn q.1) (sDb q.1) (va_up (sCm q.1) m (sCm q.1 m + 2 ^ k)) q.2 = psiC (sUn q.1) (sDb q.1) (sCm q.1) q.2 + 1 := by
      unfold psiC
      rw [e]
      omega
    simp only
    split <;> exact key
theorem psi_step {s : Sa} {x m by1 set k : Nat} {as : List (List Nat)} {q : Sa × (Nat → Nat)} (h : CF s k q) (hx : x < 6) (hm : m ≤ 200) (hk : k < 7) (hrt : ∀ e ∈ sRt s x, okRt s x e) : psi (comeStep x m by1 as set k q) = psi q + bitN set k := by
  unfold bitN
  cases hb : set.testBit k with
  | false => rw [cs_skip hb]; simp
  | true =>
    simp only [if_true]
    cases he : entryOf (sRt q.1 x) (as.getD k []) with
    | none =>
      rw [cs_unk hb rfl he]
      have h2 := sumN_up (f := sUn q.1) (v := sUn q.1 x + 1) hx
      show psiC (va_up (sUn q.1) x (sUn q.1 x + 1)) (sDb q.1) (sCm q.1) q.2 = psiC (sUn q.1) (sDb q.1) (sCm q.1) q.2 + 1
      unfold psiC
      omega
    | some e =>
      have hem : e ∈ sRt s x := by
        rw [h.1.2.1] at he
        have hof := eIdx_of (sRt s x) (as.getD k []) (sRt s x).length (Nat.le_refl _)
        rw [List.take_length, he] at hof
        cases hi : eIdx (sRt s x) (as.getD k []) (sRt s x).length with
        | none => rw [hi] at hof; cases hof
        | some i =>
          rw [hi] at hof
          exact List.mem_of_getElem? hof.symm
      obtain ⟨p, mn, ot⟩ := e
      have hok := hrt _ hem
      cases mn with
      | none =>
        rw [cs_del hb rfl he]
        exact psi_del hx hm hk
      | some j =>
        rw [cs_line hb rfl he]
        have hj := (hok.2.2.2.1 j rfl).1
        split
        · exact psi_sh (by omega) hk (h.2.2.1 j)
        · split
          · rename_i ht
            cases ot with
            | none => cases ht
            | some j2 =>
              have hj2 := (hok.2.2.2.2 j2 rfl).1
              exact psi_sh (j := j2) (by omega) hk (h.2.2.1 j2)
          · exact psi_sh (by omega) hk (h.2.2.1 8)
theorem psi_loop {s : Sa} {x m by1 set : Nat} {as : List (List Nat)} (hC : CI s) (hx : x < 6) (hm : 1 ≤ m ∧ m ≤ (sMs s).length) (hrt : ∀ e ∈ sRt s x, okRt s x e) : ∀ k, k ≤ cntOf s m → psi (comeLoop x m by1 as set k (s, fun _ => 0)) = psi (s, fun _ => 0) + sumN k (bitN set)
  | 0, _ => (Nat.add_zero _).symm
  | k + 1, hk => by
    have h7 := cnt_7 hC.2.2.1 m
    have hms := hC.1
    rw [sumN_s, ← Nat.add_assoc, ← psi_loop hC hx hm hrt k (by omega)]
    exact psi_step (CF_loop hC hm k (by omega)) hx (by omega) (by omega) hrt
theorem sumN_le {f : Nat → Nat} {k n : Nat} (h : k ≤ n) : sumN k f ≤ sumN n f := by
  induction n with
  | zero => rw [show k = 0 by omega]; exact Nat.le_refl _
  | succ n ih =>
    rcases Nat.lt_or_ge k (n + 1) with h1 | h1
    · rw [sumN_s]
      have := ih (by omega)
      omega
    · rw [show k = n + 1 by omega]; exact Nat.le_refl _
/-- the parts of the state that the parting of a copy leaves -/
theorem comesS_eq {s : Sa} {x m set by1 : Nat} : comesS s x m set by1 = (let as := ((sMs s).getD (m - 1) (0, [], 0, 0)).2.1
  let q := comeLoop x m by1 as set as.length (s, fun _ => 0)
  wCp q.1 (sCp q.1 ++ shareCopies q.1 x m q.2 8 ++ (if q.2 8 = 0 then [] else [(16 + x, m, q.2 8, by1)]))) := rfl
def InvB (n : Nat) (s : Sa) : Prop := n ≤ 512 ∧ Inv1 n s ∧ Inv2 n s
theorem InvB.CI {n : Nat} {s : Sa} (h : InvB n s) : CI s := ⟨h.2.1.2.2.2.2.2.2.1, h.2.2.1, fun r hr => ⟨(h.2.1.2.2.2.2.2.2.2 r hr).2.1, (h.2.1.2.2.2.2.2.2.2 r hr).2.2.1⟩, h.2.2.2.2.2.2⟩
theorem InvB.CS {n : Nat} {s : Sa} (h : InvB n s) (x : Nat) : CS s x := ⟨fun l a b v q => ⟨(h.2.1.2.2.2.1 l a b v q).2.1, (h.2.1.2.2.2.1 l a b v q).2.2.1⟩, (h.2.1.2.2.2.2.2.1 x).1, (h.2.1.2.2.2.2.2.1 x).2, fun r hr => (h.2.1.2.2.2.2.2.2.2 r hr).2.2.2.1⟩
theorem Inv.B {n : Nat} {s : Sa} (h : Inv n s) : InvB n s := ⟨h.1, h.2.1, h.2.2.1⟩
theorem comesS_phi {n : Nat} {s : Sa} {x m set by1 : Nat} (h : InvB n s) (hx : x < 6) (hm : 1 ≤ m ∧ m ≤ (sMs s).length) : phi (comesS s x m set by1) ≤ phi s + pc7 set := by
  have hC := h.CI
  have hl := psi_loop (by1 := by1) (set := set) (as := ((sMs s).getD (m - 1) (0, [], 0, 0)).2.1) hC hx hm (h.CS x).2.2.1 (cntOf s m) (Nat.le_refl _)
  have hf := CF_loop (x := x) (by1 := by1) (set := set) (as := ((sMs s).getD (m - 1) (0, [], 0, 0)).2.1) hC hm (cntOf s m) (Nat.le_refl _)
  have hs7 : sumN (cntOf s m) (bitN set) ≤ pc7 set := by
    rw [pc7_sum]
    exact sumN_le (cnt_7 hC.2.2.1 m)
  rw [comesS_eq]
  simp only
  rw [show ((sMs s).getD (m - 1) (0, [], 0, 0)).2.1.length = cntOf s m from rfl]
  generalize comeLoop x m by1 ((sMs s).getD (m - 1) (0, [], 0, 0)).2.1 set (cntOf s m) (s, fun _ => 0) = q at hl hf ⊢
  have h0 : psi (s, fun _ => 0) = sumN 6 (sUn s) + sumN 6 (sDb s) + sumN 201 (fun m => pc7 (sCm s m)) := by
    show psiC (sUn s) (sDb s) (sCm s) (fun _ => 0) = _
    unfold psiC
    rw [show sumN 9 (fun _ => pc7 0) = 0 by decide, Nat.add_zero]
  have h9 : sumN 9 (fun l => pc7 (q.2 l)) = sumN 8 (fun l => pc7 (q.2 l)) + pc7 (q.2 8) := sumN_s 8 _
  have h8 : phiCp (if q.2 8 = 0 then [] else [(16 + x, m, q.2 8, by1)]) = pc7 (q.2 8) := by
    split
    · rename_i hz
      rw [hz, pc7_0]
      rfl
    · simp [phiCp]
  unfold phi
  show phiCp (sCp q.1 ++ shareCopies q.1 x m q.2 8 ++ (if q.2 8 = 0 then [] else [(16 + x, m, q.2 8, by1)])) + sumN 16 (fun c => phi1 (sCh q.1 c)) + sumN 6 (sUn q.1) + sumN 6 (sDb q.1) + sumN 201 (fun m => pc7 (sCm q.1 m)) ≤ _
  rw [phiCp_app, phiCp_app, phiCp_share, h8, hf.1.2.2.2.1, hf.1.2.2.2.2.1]
  have hl2 : psiC (sUn q.1) (sDb q.1) (sCm q.1) q.2 = psi (s, fun _ => 0) + sumN (cntOf s m) (bitN set) := hl
  rw [h0] at hl2
  unfold psiC at hl2
  omega
theorem comesS_same {s : Sa} {x m set by1 : Nat} (hC : CI s) (hm : 1 ≤ m ∧ m ≤ (sMs s).length) : sLn (comesS s x m set by1) = sLn s ∧ sRt (comesS s x m set by1) = sRt s ∧ sMs (comesS s x m set by1) = sMs s ∧ sCh (comesS s x m set by1) = sCh s ∧ sMin (comesS s x m set by1) = sMin s ∧ sLog (comesS s x m set by1) = sLog s := by
  have hf := CF_loop (x := x) (by1 := by1) (set := set) (as := ((sMs s).getD (m - 1) (0, [], 0, 0)).2.1) hC hm (cntOf s m) (Nat.le_refl _)
  obtain ⟨⟨f1, f2, f3, f4, f5, f6, f7⟩, _⟩ := hf
  exact ⟨f1, f2, f3, f5, f6, f7⟩
end Inv1
