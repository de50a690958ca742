section Pfx
/-! the two ints of route as one long -/
def pT (one two : Int32) : Nat := one.toBitVec.toNat + two.toBitVec.toNat * 2 ^ 32
theorem pT_lt (one two : Int32) : pT one two < 2 ^ 64 := by
  have h1 := one.toBitVec.isLt
  have h2 := two.toBitVec.isLt
  unfold pT
  omega
theorem i2l_n {a : Nat} (ha : a < 2 ^ 32) : (nI a).toInt64 = lN (a + if 2 ^ 31 ≤ a then 2 ^ 64 - 2 ^ 32 else 0) := by
  apply Int64.toBitVec_inj.1
  show (BitVec.ofNat 32 a).signExtend 64 = BitVec.ofNat 64 _
  apply BitVec.eq_of_toNat_eq
  rw [BitVec.toNat_signExtend, BitVec.msb_eq_decide, BitVec.toNat_setWidth, BitVec.toNat_ofNat, BitVec.toNat_ofNat, Nat.mod_eq_of_lt ha]
  by_cases h : 2 ^ 31 ≤ a
  · rw [if_pos h, if_pos (decide_eq_true h)]
    omega
  · rw [if_neg h, if_neg (by simpa using h)]
    omega
theorem pf64 (one two : Int32) : (one.toInt64 &&& 4294967295) ||| (two.toInt64 <<< ((nI 32).toInt64 &&& 63)) = lN (pT one two) := by
  obtain ⟨a, ha, rfl⟩ := wb_of32 one
  obtain ⟨b, hb, rfl⟩ := wb_of32 two
  have ea : (nI a).toBitVec.toNat = a := by show (BitVec.ofNat 32 a).toNat = a; rw [BitVec.toNat_ofNat, Nat.mod_eq_of_lt ha]
  have eb : (nI b).toBitVec.toNat = b := by show (BitVec.ofNat 32 b).toNat = b; rw [BitVec.toNat_ofNat, Nat.mod_eq_of_lt hb]
  unfold pT
  rw [ea, eb, i2l_n ha, i2l_n hb, show (4294967295 : Int64) = lN (2 ^ 32 - 1) from rfl, wb_mask (by split <;> omega) (by decide), wb_shl _ (by decide)]
  have e1 : (a + if 2 ^ 31 ≤ a then 2 ^ 64 - 2 ^ 32 else 0) % 2 ^ 32 = a := by split <;> omega
  have e2 : lN ((b + if 2 ^ 31 ≤ b then 2 ^ 64 - 2 ^ 32 else 0) * 2 ^ 32) = lN (b * 2 ^ 32) := by
    rw [wb_mod]
    congr 1
    split <;> omega
  rw [e1, e2, wb_or (by omega) (by omega), Nat.or_comm, or_add ha, Nat.add_comm]
theorem pT_byte (one two : Int32) : ∀ k, k < 8 → pbyte one two k = pT one two / 2 ^ (8 * k) % 256 := by
  intro k hk
  have h1 := one.toBitVec.isLt
  have h2 := two.toBitVec.isLt
  unfold pbyte pT
  generalize one.toBitVec.toNat = a at *
  generalize two.toBitVec.toNat = b at *
  match k, hk with
  | 0, _ => simp only [if_pos (show 0 < 4 by decide)]; omega
  | 1, _ => simp only [if_pos (show 1 < 4 by decide)]; omega
  | 2, _ => simp only [if_pos (show 2 < 4 by decide)]; omega
  | 3, _ => simp only [if_pos (show 3 < 4 by decide)]; omega
  | 4, _ => simp only [if_neg (show ¬ 4 < 4 by decide)]; omega
  | 5, _ => simp only [if_neg (show ¬ 5 < 4 by decide)]; omega
  | 6, _ => simp only [if_neg (show ¬ 6 < 4 by decide)]; omega
  | 7, _ => simp only [if_neg (show ¬ 7 < 4 by decide)]; omega
def lt1 (c : Nat) : Bool := decide (65 ≤ c ∧ c ≤ 90)
/-- what isPrefix answers -/
def isP (T n : Nat) : Bool := decide (T < 2 ^ (8 * n)) && (List.range n).all fun k => lt1 (T / 2 ^ (8 * k) % 256)
theorem isP_zero {T : Nat} (hT : T < 2 ^ 64) : ∀ n, 1 ≤ n → n ≤ 8 → (T < 2 ^ (8 * n) ↔ ∀ k, k < 8 → n ≤ k → T / 2 ^ (8 * k) % 256 = 0) := by
  intro n h1 h8
  constructor
  · intro h k hk hn
    have h2 : 2 ^ (8 * n) ≤ 2 ^ (8 * k) := Nat.pow_le_pow_right (by decide) (by omega)
    rw [Nat.div_eq_of_lt (by omega)]
  · intro h
    have g1 := h 1 (by decide)
    have g2 := h 2 (by decide)
    have g3 := h 3 (by decide)
    have g4 := h 4 (by decide)
    have g5 := h 5 (by decide)
    have g6 := h 6 (by decide)
    have g7 := h 7 (by decide)
    rcases (show n = 1 ∨ n = 2 ∨ n = 3 ∨ n = 4 ∨ n = 5 ∨ n = 6 ∨ n = 7 ∨ n = 8 by omega) with rfl | rfl | rfl | rfl | rfl | rfl | rfl | rfl <;> omega
theorem isP_eq (one two : Int32) {n : Nat} (h1 : 1 ≤ n) (h8 : n ≤ 8) : isP (pT one two) n = pfxOK one two n := by
  rw [Bool.eq_iff_iff]
  unfold isP pfxOK
  rw [Bool.and_eq_true, decide_eq_true_iff, List.all_eq_true, List.all_eq_true, isP_zero (pT_lt one two) n h1 h8]
  constructor
  · intro ⟨hz, ha⟩ k hk
    have hk8 := List.mem_range.mp hk
    rw [pT_byte one two k hk8]
    by_cases h : k < n
    · rw [if_pos h]
      exact ha k (List.mem_range.mpr h)
    · rw [if_neg h, hz k hk8 (by omega)]
      rfl
  · intro h
    refine ⟨fun k hk hn => ?_, fun k hk => ?_⟩
    · have := h k (List.mem_range.mpr hk)
      rw [if_neg (by omega), pT_byte one two k hk] at this
      exact beq_iff_eq.mp this
    · have hkn := List.mem_range.mp hk
      have := h k (List.mem_range.mpr (by omega))
      rw [if_pos hkn, pT_byte one two k (by omega)] at this
      exact this
theorem l2i255 (m : Nat) : (lN m).toInt32 &&& nI 255 = nI (m % 256) := by
  apply Int32.toBitVec_inj.1
  show (BitVec.ofNat 64 m).signExtend 32 &&& BitVec.ofNat 32 255 = BitVec.ofNat 32 (m % 256)
  apply BitVec.eq_of_toNat_eq
  rw [BitVec.toNat_and, BitVec.toNat_signExtend, show (2 ^ 32 - 2 ^ 64 : Nat) = 0 from rfl, ite_self, Nat.add_zero, BitVec.toNat_setWidth, BitVec.toNat_ofNat, BitVec.toNat_ofNat, BitVec.toNat_ofNat, show 255 % 2 ^ 32 = 2 ^ 8 - 1 from rfl, Nat.and_two_pow_sub_one_eq_mod]
  omega
theorem let_in : ∀ c : Nat, c < 256 → inZ (nI c) (nI 65) (nI 90) = lt1 c := by decide +kernel
theorem msk0 {T m : Nat} (hT : T < 2 ^ 64) (hm : m ≤ 64) : lN T &&& (lN (2 ^ m - 1) ^^^ -1) = lN 0 ↔ T < 2 ^ m := by
  have e : lN T &&& (lN (2 ^ m - 1) ^^^ -1) = lN (T / 2 ^ m * 2 ^ m) := by
    apply Int64.toBitVec_inj.1
    show BitVec.ofNat 64 T &&& (BitVec.ofNat 64 (2 ^ m - 1) ^^^ BitVec.allOnes 64) = BitVec.ofNat 64 _
    apply BitVec.eq_of_getLsbD_eq
    intro i hi
    rw [BitVec.getLsbD_and, BitVec.getLsbD_xor, BitVec.getLsbD_allOnes, BitVec.getLsbD_ofNat, BitVec.getLsbD_ofNat, BitVec.getLsbD_ofNat, Nat.testBit_two_pow_sub_one, Nat.testBit_mul_two_pow]
    by_cases h : i < m
    · simp [hi, h]
      intro; omega
    · rw [Nat.testBit_div_two_pow]
      simp [hi, h, show m ≤ i by omega]
  rw [e]
  have hd := Nat.div_mul_le_self T (2 ^ m)
  rw [lN_inj (by omega) (by decide)]
  have hp : 0 < 2 ^ m := Nat.pow_pos (by decide)
  constructor
  · intro h
    rcases Nat.mul_eq_zero.mp h with h | h
    · exact (Nat.div_eq_zero_iff_lt hp).mp h
    · omega
  · intro h
    rw [Nat.div_eq_of_lt h, Nat.zero_mul]
theorem leN_inj2 : ∀ {l m : List Nat}, (∀ b ∈ l, 65 ≤ b ∧ b ≤ 90) → (∀ b ∈ m, 65 ≤ b ∧ b ≤ 90) → leN l = leN m → l = m
  | [], [], _, _, _ => rfl
  | [], c :: m, _, h, e => by have := h c List.mem_cons_self; rw [leN, leN] at e; omega
  | b :: l, [], h, _, e => by have := h b List.mem_cons_self; rw [leN, leN] at e; omega
  | b :: l, c :: m, h1, h2, e => by
    have hb := h1 b List.mem_cons_self
    have hc := h2 c List.mem_cons_self
    rw [leN, leN] at e
    have e1 : b = c := by omega
    have e2 : leN l = leN m := by omega
    rw [e1, leN_inj2 (fun x hx => h1 x (List.mem_cons_of_mem _ hx)) (fun x hx => h2 x (List.mem_cons_of_mem _ hx)) e2]
theorem leN_rng (f : Nat → Nat) (hf : ∀ k, f k < 256) : ∀ n, leN ((List.range n).map f) = leT f 0 n
  | 0 => rfl
  | n + 1 => by
    rw [List.range_succ, List.map_append, leN_app, leN_rng f hf n, List.length_map, List.length_range, leT]
    simp [leN]
    rw [show (256 : Nat) = 2 ^ 8 from rfl, ← Nat.pow_mul, Nat.mul_comm]
theorem leT_pT {T : Nat} : ∀ n, leT (fun k => T / 2 ^ (8 * k) % 256) 0 n = T % 2 ^ (8 * n)
  | 0 => by rw [leT]; omega
  | n + 1 => by
    rw [leT, leT_pT n, Nat.zero_add, show 8 * (n + 1) = 8 * n + 8 by omega, Nat.pow_add]
    rw [Nat.mod_mul, Nat.mul_comm (2 ^ (8 * n))]
theorem pfx_leN (one two : Int32) {n : Nat} (h8 : n ≤ 8) (hp : pT one two < 2 ^ (8 * n)) : leN (pfx one two n) = pT one two := by
  have e : pfx one two n = (List.range n).map (fun k => pT one two / 2 ^ (8 * k) % 256) := by
    unfold pfx
    refine List.map_congr_left (fun k hk => ?_)
    exact pT_byte one two k (by have := List.mem_range.mp hk; omega)
  rw [e, leN_rng _ (fun k => Nat.mod_lt _ (by decide)), leT_pT, Nat.mod_eq_of_lt hp]
theorem pfx_let (one two : Int32) {n : Nat} (h8 : n ≤ 8) (hp : pfxOK one two n = true) : ∀ b ∈ pfx one two n, 65 ≤ b ∧ b ≤ 90 := by
  intro b hb
  obtain ⟨k, hk, rfl⟩ := List.mem_map.mp hb
  have hkn := List.mem_range.mp hk
  have := List.all_eq_true.mp hp k (List.mem_range.mpr (by omega))
  rw [if_pos hkn] at this
  exact of_decide_eq_true this
end Pfx
