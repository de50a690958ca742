section Mod7
/-- the number of letters, the first one being the highest byte -/
def beN (l : List Nat) : Nat := l.foldl (fun w b => w * 256 + b) 0
def beT (t : Nat → Nat) (a : Nat) : Nat → Nat
  | 0 => 0
  | k + 1 => beT t a k * 256 + t (a + k)
theorem beT_lt {t : Nat → Nat} (ht : ∀ p, t p < 256) (a : Nat) : ∀ k, beT t a k < 256 ^ k
  | 0 => by rw [beT]; decide
  | k + 1 => by
    have h1 := beT_lt ht a k
    have h2 := ht (a + k)
    rw [beT, Nat.pow_succ]
    omega
theorem beT_le {t : Nat → Nat} (ht : ∀ p, t p < 256) (a : Nat) {k : Nat} (hk : k ≤ 7) : beT t a k < 2 ^ 56 :=
  Nat.lt_of_lt_of_le (beT_lt ht a k) (by
    have : (256 : Nat) ^ k ≤ 256 ^ 7 := Nat.pow_le_pow_right (by decide) hk
    omega)
theorem pLet_inl {g : Nat → Int} {r : Nat} : ∀ {n a b : Nat}, pLet g r n a = .inl b → b = a + n ∧ ∀ k, k < n → isLet (g (a + k)) = true
  | 0, a, b, h => by
    cases h
    exact ⟨rfl, fun k hk => absurd hk (by omega)⟩
  | n + 1, a, b, h => by
    rw [pLet] at h
    split at h
    · rename_i h0
      obtain ⟨h1, h2⟩ := pLet_inl h
      refine ⟨by omega, fun k hk => ?_⟩
      cases k with
      | zero => exact h0
      | succ k =>
        have := h2 k (by omega)
        rwa [show a + 1 + k = a + (k + 1) by omega] at this
    · cases h
theorem let_lt {t : Nat → Nat} {ln p : Nat} (h : isLet (gv t ln p) = true) : p < ln ∧ gv t ln p = (t p : Int) := by
  unfold isLet at h
  unfold gv at *
  split at h
  · rename_i h0
    exact ⟨h0, if_pos h0⟩
  · simp at h
theorem eight_t {t : Nat → Nat} {ln a : Nat} (h : ∀ k, k < 8 → isLet (gv t ln (a + k)) = true) : eight (gv t ln) a = (List.range 8).map (fun k => t (a + k)) := by
  unfold eight
  apply List.map_congr_left
  intro k hk
  rw [(let_lt (h k (List.mem_range.mp hk))).2]
  rfl
theorem beN_eight {t : Nat → Nat} {ln a : Nat} (h : ∀ k, k < 8 → isLet (gv t ln (a + k)) = true) : beN (eight (gv t ln) a) = beT t a 8 := by
  rw [eight_t h]
  simp [beN, beT, List.range, List.range.loop]
/-- lists of eight letters -/
def ad8 (x : List Nat) : Prop := x.length = 8 ∧ ∀ b ∈ x, 65 ≤ b ∧ b ≤ 90
theorem eight_ad {t : Nat → Nat} {ln a : Nat} (h : ∀ k, k < 8 → isLet (gv t ln (a + k)) = true) : ad8 (eight (gv t ln) a) := by
  refine ⟨by simp [eight], fun b hb => ?_⟩
  unfold eight at hb
  obtain ⟨k, hk, rfl⟩ := List.mem_map.mp hb
  have h1 := h k (List.mem_range.mp hk)
  unfold isLet at h1
  simp only [decide_eq_true_eq] at h1
  omega
theorem be_acc : ∀ (l : List Nat) (acc : Nat), l.foldl (fun w b => w * 256 + b) acc = acc * 256 ^ l.length + beN l
  | [], acc => by simp [beN]
  | b :: l, acc => by
    have h1 := be_acc l (acc * 256 + b)
    have h2 : beN (b :: l) = (0 * 256 + b) * 256 ^ l.length + beN l := be_acc l (0 * 256 + b)
    rw [List.foldl_cons, h1, h2, List.length_cons, Nat.pow_succ, Nat.add_mul, Nat.zero_mul, Nat.zero_add, Nat.mul_comm (256 ^ l.length) 256, ← Nat.mul_assoc]
    omega
theorem beN_cons (b : Nat) (l : List Nat) : beN (b :: l) = b * 256 ^ l.length + beN l := by
  have h2 : beN (b :: l) = (0 * 256 + b) * 256 ^ l.length + beN l := be_acc l (0 * 256 + b)
  rw [h2, Nat.zero_mul, Nat.zero_add]
theorem beN_lt : ∀ {l : List Nat}, (∀ b ∈ l, b < 256) → beN l < 256 ^ l.length
  | [], _ => by decide
  | b :: l, h => by
    have h1 := beN_lt (l := l) (fun c hc => h c (List.mem_cons_of_mem _ hc))
    have h2 : b ≤ 255 := by have := h b List.mem_cons_self; omega
    have h3 : b * 256 ^ l.length ≤ 255 * 256 ^ l.length := Nat.mul_le_mul_right _ h2
    rw [beN_cons, List.length_cons, Nat.pow_succ]
    omega
theorem beN_inj : ∀ {l m : List Nat}, l.length = m.length → (∀ b ∈ l, b < 256) → (∀ b ∈ m, b < 256) → beN l = beN m → l = m
  | [], m, h1, _, _, _ => (List.length_eq_zero_iff.mp h1.symm).symm
  | b :: l, [], h1, _, _, _ => by simp at h1
  | b :: l, c :: m, h1, h2, h3, h4 => by
    have hl : l.length = m.length := by simpa using h1
    have r1 := beN_lt (l := l) (fun x hx => h2 x (List.mem_cons_of_mem _ hx))
    have r2 := beN_lt (l := m) (fun x hx => h3 x (List.mem_cons_of_mem _ hx))
    rw [beN_cons, beN_cons, hl] at h4
    rw [hl] at r1
    have hX : 0 < 256 ^ m.length := Nat.pow_pos (by decide)
    have e1 : b = c := by
      have d1 : (b * 256 ^ m.length + beN l) / 256 ^ m.length = b := by rw [Nat.add_comm, Nat.add_mul_div_right _ _ hX, Nat.div_eq_of_lt r1, Nat.zero_add]
      have d2 : (c * 256 ^ m.length + beN m) / 256 ^ m.length = c := by rw [Nat.add_comm, Nat.add_mul_div_right _ _ hX, Nat.div_eq_of_lt r2, Nat.zero_add]
      rw [← d1, ← d2, h4]
    subst e1
    have e2 : beN l = beN m := by omega
    rw [beN_inj hl (fun x hx => h2 x (List.mem_cons_of_mem _ hx)) (fun x hx => h3 x (List.mem_cons_of_mem _ hx)) e2]
theorem ad8_lt {x : List Nat} (h : ad8 x) : beN x < 2 ^ 64 := by
  have := beN_lt (l := x) (fun b hb => by have := h.2 b hb; omega)
  rw [h.1] at this
  omega
theorem lN_inj {a b : Nat} (ha : a < 2 ^ 64) (hb : b < 2 ^ 64) : lN a = lN b ↔ a = b :=
  ⟨fun h => by rw [← wb_tn ha, ← wb_tn hb, h], fun h => by rw [h]⟩
theorem ad8_eq {x z : List Nat} (hx : ad8 x) (hz : ad8 z) : lN (beN x) = lN (beN z) ↔ x = z := by
  rw [lN_inj (ad8_lt hx) (ad8_lt hz)]
  exact ⟨fun h => beN_inj (hx.1.trans hz.1.symm) (fun b hb => by have := hx.2 b hb; omega) (fun b hb => by have := hz.2 b hb; omega) h, fun h => by rw [h]⟩
end Mod7
