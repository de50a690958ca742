section Cls20
theorem mk_8 : (-1 : Int64) = lN (2 ^ (8 * 8) - 1) := by decide +kernel
theorem mk_k : ∀ k, k < 8 → lN (1 * 2 ^ (8 * k)) - lN 1 = lN (2 ^ (8 * k) - 1) := by decide +kernel
set_option maxRecDepth 20000 in
theorem c_Net_maskOf {G : Gt}  {h : AHp} {k : Nat} (hk : k ≤ 8) : CallR G m_Net_maskOf 0 0 [.int (nI k)] h 0 0 (some (.long (lN (2 ^ (8 * k) - 1)))) h := by
  refine CallS.of (Nat.le_of_ble_eq_true rfl) ?_
  refine wp_iload_n d_Net_maskOf_0 rfl 0 rfl ?_
  refine wp_bipush (v := nI 8) d_Net_maskOf_1 (by decide) ?_
  refine wp_ltN (tgt := 12) d_Net_maskOf_3 (by decide) (by omega) (by omega) (fun c3 => ?_) (fun c3 => ?_)
  · refine wp_lconst (v := lN 1) d_Net_maskOf_12 (by decide) ?_
    refine wp_bipush (v := nI 8) d_Net_maskOf_13 (by decide) ?_
    refine wp_iload_n d_Net_maskOf_15 rfl 0 rfl ?_
    refine wp_imulN d_Net_maskOf_16 ?_
    refine wp_lshlN d_Net_maskOf_17 (by omega) ?_
    refine wp_lconst (v := lN 1) d_Net_maskOf_18 (by decide) ?_
    refine wp_lsub d_Net_maskOf_19 ?_
    exact wp_lret d_Net_maskOf_20 rfl ⟨by rw [mk_k k (by omega)], rfl⟩
  · refine wp_ldc2 (v := -1) d_Net_maskOf_6 wK_Net_364 ?_
    refine wp_goto (tgt := 20) d_Net_maskOf_9 (by decide) ?_
    exact wp_lret d_Net_maskOf_20 rfl ⟨by rw [show k = 8 by omega, ← mk_8], rfl⟩
theorem leN_app : ∀ (x z : List Nat), leN (x ++ z) = leN x + 256 ^ x.length * leN z
  | [], z => by simp [leN]
  | b :: x, z => by
    rw [List.cons_append, leN, leN, leN_app x z, List.length_cons, Nat.pow_succ, Nat.mul_add, Nat.mul_comm (256 ^ x.length) 256, Nat.mul_assoc]
    omega
theorem leN_take {a : List Nat} (ha : ad8 a) {k : Nat} (hk : k ≤ 8) : leN a % 2 ^ (8 * k) = leN (a.take k) := by
  have e : leN a = leN (a.take k) + 256 ^ (a.take k).length * leN (a.drop k) := by
    conv => lhs; rw [← List.take_append_drop k a]
    exact leN_app _ _
  have hl : (a.take k).length = k := by rw [List.length_take, ha.1]; omega
  have hlt := leN_lt (l := a.take k) (fun b hb => by have := ha.2 b (List.mem_of_mem_take hb); omega)
  rw [hl] at hlt e
  have hp : (2 : Nat) ^ (8 * k) = 256 ^ k := by rw [show (256 : Nat) = 2 ^ 8 from rfl, ← Nat.pow_mul]
  rw [hp, e, Nat.add_mul_mod_self_left, Nat.mod_eq_of_lt hlt]
theorem wb_andN {a b : Nat} : lN a &&& lN b = lN (a &&& b) := by
  apply Int64.toBitVec_inj.1
  show BitVec.ofNat 64 a &&& BitVec.ofNat 64 b = BitVec.ofNat 64 (a &&& b)
  apply BitVec.eq_of_getLsbD_eq
  intro i hi
  simp [hi]
theorem pre_iff {a e : List Nat} (ha : ad8 a) (he : 1 ≤ e.length ∧ e.length ≤ 8) (h1 : ∀ b ∈ e, 65 ≤ b ∧ b ≤ 90) : lN (leN a) &&& lN (2 ^ (8 * e.length) - 1) = lN (leN e) ↔ e.isPrefixOf a = true := by
  rw [wb_andN, Nat.and_two_pow_sub_one_eq_mod, leN_take ha he.2]
  have ht : (a.take e.length).length = e.length := by rw [List.length_take, ha.1]; omega
  have b1 : ∀ b ∈ a.take e.length, b < 256 := fun c hc => by have := ha.2 c (List.mem_of_mem_take hc); omega
  have b2 : ∀ b ∈ e, b < 256 := fun c hc => by have := h1 c hc; omega
  have q1 := leN_lt b1
  have q2 := leN_lt b2
  have q3 : (256 : Nat) ^ e.length ≤ 2 ^ 64 := Nat.pow_le_pow_right (n := 256) (by decide) he.2
  rw [ht] at q1
  rw [lN_inj (by omega) (by omega), List.isPrefixOf_iff_prefix, List.prefix_iff_eq_take]
  constructor
  · intro h
    exact (leN_inj ht b1 b2 h).symm
  · intro h
    rw [← h]
set_option maxRecDepth 20000 in
theorem c_Ent_begins {G : Gt} {K N : Nat → Nat} {I : Nat → Nat → Int32} {R : Nat → Nat → Option Nat} {L : Nat → Nat → Int64} {E : Nat → Nat → Int32} {El : Nat → Nat → Int64} {Er : Nat → Nat → Option Nat} {Γ : Gm} {a : List Nat} (ha : ad8 a) {q : Nat} {e : List Nat × Option Nat × Option Nat} (hen : en1 Γ K I L q e) (hel : 1 ≤ e.1.length ∧ e.1.length ≤ 8) (hel2 : ∀ b ∈ e.1, 65 ≤ b ∧ b ≤ 90) : CallR G m_Ent_begins 1 14 [.ref (Γ 5 q), .long (lN (leN a))] (hN K N I R L E El Er) 0 0 (some (.int (bI (e.1.isPrefixOf a)))) (hN K N I R L E El Er) := by
  refine CallS.of (Nat.le_of_ble_eq_true rfl) ?_
  refine wp_lload_n d_Ent_begins_0 rfl 1 rfl ?_
  refine wp_aload_n d_Ent_begins_1 rfl 0 rfl ?_
  refine wn_get_Ent d_Ent_begins_2 (hen.1) 1 (by decide) wF_Ent_13 rfl ?_
  refine wp_toI (z := (nI (e.1.length))) (hen.2.2.1) ?_
  refine wp_callV (r := 2) d_Ent_begins_5 (link_SN (av := [.int (nI (e.1.length))]) (rest := [.long (lN (leN a))]) d_Ent_begins_5 cal_Net_maskOf wN_Ent_23 wM_Ent_23 rfl) cal_Net_maskOf (c_Net_maskOf hel.2) (Nat.le_of_ble_eq_true rfl) ⟨Nat.le_of_ble_eq_true rfl, Nat.le_of_ble_eq_true rfl⟩ ?_
  refine wp_land d_Ent_begins_8 ?_
  refine wp_aload_n d_Ent_begins_9 rfl 0 rfl ?_
  refine wn_get_Ent d_Ent_begins_10 (hen.1) 0 (by decide) wF_Ent_7 rfl ?_
  refine wp_toL (z := (lN (leN e.1))) (hen.2.1) ?_
  refine wp_lcmp d_Ent_begins_13 ?_
  refine wp_if_neC (tgt := 21) d_Ent_begins_14 (by decide) (fun c14 => ?_) (fun c14 => ?_)
  · refine wp_iconst (v := nI 0) d_Ent_begins_21 (by decide) ?_
    exact wp_zret (ty := .boolean) d_Ent_begins_22 rfl rfl ⟨resI (bI_zero (by rcases Bool.eq_false_or_eq_true (e.1.isPrefixOf a) with h | h; (exact absurd ((pre_iff ha hel hel2).mpr h) c14); (exact h))), rfl⟩
  · refine wp_iconst (v := nI 1) d_Ent_begins_17 (by decide) ?_
    refine wp_goto (tgt := 22) d_Ent_begins_18 (by decide) ?_
    exact wp_zret (ty := .boolean) d_Ent_begins_22 rfl rfl ⟨resI (bI_one ((pre_iff ha hel hel2).mp c14)), rfl⟩
end Cls20
