section Mod21
theorem lsr_N {a c : Nat} (ha : a < 2 ^ 63) (hc : c < 64) : lN a >>> ((nI c).toInt64 &&& 63) = lN (a / 2 ^ c) := by
  rw [wb_c c hc]
  apply wb_inj
  show (lN a).toBitVec.sshiftRight ((lN c).toBitVec.smod 64).toNat = _
  rw [wb_tb, wb_tb, wb_sm c hc, wb_tb, BitVec.toNat_ofNat, Nat.mod_eq_of_lt (show c < 2 ^ 64 by omega)]
  have hm : (BitVec.ofNat 64 a).msb = false := by
    rw [BitVec.msb_eq_false_iff_two_mul_lt, BitVec.toNat_ofNat]
    rw [Nat.mod_eq_of_lt (by omega)]
    omega
  rw [BitVec.sshiftRight_eq_of_msb_false hm]
  apply BitVec.eq_of_toNat_eq
  rw [BitVec.toNat_ushiftRight, BitVec.toNat_ofNat, BitVec.toNat_ofNat, Nat.shiftRight_eq_div_pow, Nat.mod_eq_of_lt (by omega), Nat.mod_eq_of_lt]
  have := Nat.div_le_self a (2 ^ c)
  omega
theorem wp_lshrN {G : Gt} {y : Mi} {B : Bt} {pc : Nat} {lv : List (Nat × Value)} {st : List Value} {h : AHp} {k n a c : Nat} (hd : decode (mB y) pc = .ok (.lshr, 1)) (hc : c < 64) (ha : a < 2 ^ 63) (kk : WP G y B (pc + 1) lv (.long (lN (a / 2 ^ c)) :: st) h k n) : WP G y B pc lv (.int (nI c) :: .long (lN a) :: st) h k n := wp_lshr hd (lsr_N ha hc) kk
theorem beN_app (x z : List Nat) : beN (x ++ z) = beN x * 256 ^ z.length + beN z := by
  unfold beN
  rw [List.foldl_append, be_acc]
  rfl
theorem ad8_63 {x : List Nat} (h : ad8 x) : beN x < 2 ^ 63 := by
  obtain ⟨h1, h2⟩ := h
  match x, h1, h2 with
  | b :: l, h1, h2 =>
    rw [beN_cons]
    have hb := h2 b List.mem_cons_self
    have hl := beN_lt (l := l) (fun c hc => by have := h2 c (List.mem_cons_of_mem _ hc); omega)
    have e : l.length = 7 := by simpa using h1
    rw [e] at hl ⊢
    omega
theorem pre_63 {e : List Nat} (he : 1 ≤ e.length ∧ e.length ≤ 8) (h1 : ∀ b ∈ e, 65 ≤ b ∧ b ≤ 90) : beN e * 256 ^ (8 - e.length) < 2 ^ 63 := by
  match e, he, h1 with
  | b :: l, he, h1 =>
    rw [beN_cons]
    have hb := h1 b List.mem_cons_self
    have hl := beN_lt (l := l) (fun c hc => by have := h1 c (List.mem_cons_of_mem _ hc); omega)
    have e2 : l.length ≤ 7 := by have := he.2; simp at this; omega
    have h3 : 256 ^ l.length * 256 ^ (8 - (b :: l).length) = 256 ^ 7 := by
      rw [← Nat.pow_add]
      congr 1
      simp
      omega
    have h4 : b * 256 ^ l.length + beN l < 128 * 256 ^ l.length := by
      have : b * 256 ^ l.length ≤ 90 * 256 ^ l.length := Nat.mul_le_mul_right _ hb.2
      omega
    have h5 := Nat.mul_lt_mul_of_pos_right h4 (Nat.pow_pos (n := 8 - (b :: l).length) (show 0 < 256 by decide))
    rw [Nat.mul_assoc, h3] at h5
    exact h5
theorem isP_iff {a e : List Nat} (ha : ad8 a) (he : 1 ≤ e.length ∧ e.length ≤ 8) (h1 : ∀ b ∈ e, 65 ≤ b ∧ b ≤ 90) : lN (beN a / 2 ^ (64 - 8 * e.length)) = lN (beN e * 256 ^ (8 - e.length) / 2 ^ (64 - 8 * e.length)) ↔ e.isPrefixOf a = true := by
  have hp : (2 : Nat) ^ (64 - 8 * e.length) = 256 ^ (8 - e.length) := by
    rw [show (256 : Nat) = 2 ^ 8 from rfl, ← Nat.pow_mul]
    congr 1
    omega
  have hpos : 0 < 256 ^ (8 - e.length) := Nat.pow_pos (by decide)
  have hal := ha.1
  have hd : beN a / 256 ^ (8 - e.length) = beN (a.take e.length) := by
    conv => lhs; rw [← List.take_append_drop e.length a, beN_app]
    have hl : (a.drop e.length).length = 8 - e.length := by rw [List.length_drop, hal]
    have hlt := beN_lt (l := a.drop e.length) (fun c hc => by have := ha.2 c (List.mem_of_mem_drop hc); omega)
    rw [hl] at hlt ⊢
    rw [Nat.add_comm, Nat.add_mul_div_right _ _ hpos, Nat.div_eq_of_lt hlt, Nat.zero_add]
  rw [hp, Nat.mul_div_cancel _ hpos, hd]
  have ht : (a.take e.length).length = e.length := by rw [List.length_take, hal]; omega
  have b1 : ∀ b ∈ a.take e.length, b < 256 := fun c hc => by have := ha.2 c (List.mem_of_mem_take hc); omega
  have b2 : ∀ b ∈ e, b < 256 := fun c hc => by have := h1 c hc; omega
  have q1 := beN_lt b1
  have q2 := beN_lt b2
  have q3 : (256 : Nat) ^ e.length ≤ 2 ^ 64 := by
    have := Nat.pow_le_pow_right (n := 256) (by decide) he.2
    exact this
  rw [ht] at q1
  rw [lN_inj (by omega) (by omega), List.isPrefixOf_iff_prefix, List.prefix_iff_eq_take]
  constructor
  · intro h
    exact (beN_inj ht b1 b2 h).symm
  · intro h
    rw [← h]
abbrev RtE : Type := List Nat × Option Nat × Option Nat
def eStep (rt : List RtE) (ad : List Nat) (b : Option Nat) (i : Nat) : Option Nat := match rt[i]? with
  | none => b
  | some e => if e.1.isPrefixOf ad then (match b with
    | none => some i
    | some j => match rt[j]? with
      | none => some i
      | some b' => if b'.1.length < e.1.length then some i else b) else b
def eIdx (rt : List RtE) (ad : List Nat) : Nat → Option Nat
  | 0 => none
  | k + 1 => eStep rt ad (eIdx rt ad k) k
theorem eIdx_s (rt : List RtE) (ad : List Nat) (k : Nat) : eIdx rt ad (k + 1) = eStep rt ad (eIdx rt ad k) k := rfl
theorem eIdx_lt (rt : List RtE) (ad : List Nat) : ∀ k, k ≤ rt.length → ∀ i, eIdx rt ad k = some i → i < k
  | 0, _, i, h => by cases h
  | k + 1, hk, i, h => by
    have ih := eIdx_lt rt ad k (by omega)
    obtain ⟨e, he⟩ := get_of (l := rt) (i := k) (by omega)
    rw [eIdx_s] at h
    cases hb : eIdx rt ad k with
    | none =>
      rw [hb] at h
      simp only [eStep, he] at h
      by_cases hp : e.1.isPrefixOf ad = true
      · rw [if_pos hp] at h
        cases h
        omega
      · rw [if_neg hp] at h
        cases h
    | some j =>
      have hj := ih j hb
      obtain ⟨b', hb'⟩ := get_of (l := rt) (i := j) (by omega)
      rw [hb] at h
      simp only [eStep, he, hb'] at h
      by_cases hp : e.1.isPrefixOf ad = true
      · rw [if_pos hp] at h
        by_cases hl : b'.1.length < e.1.length
        · rw [if_pos hl] at h
          cases h
          omega
        · rw [if_neg hl] at h
          cases h
          omega
      · rw [if_neg hp] at h
        cases h
        omega
theorem eIdx_of (rt : List RtE) (ad : List Nat) : ∀ k, k ≤ rt.length → entryOf (rt.take k) ad = (eIdx rt ad k).bind (fun i => rt[i]?)
  | 0, _ => rfl
  | k + 1, hk => by
    have ih := eIdx_of rt ad k (by omega)
    have ilt := eIdx_lt rt ad k (by omega)
    obtain ⟨e, he⟩ := get_of (l := rt) (i := k) (by omega)
    rw [List.take_add_one, he]
    unfold entryOf at ih ⊢
    rw [show (some e).toList = [e] from rfl, List.foldl_append, ih, eIdx_s]
    cases hb : eIdx rt ad k with
    | none =>
      simp only [Option.bind_none, List.foldl_cons, List.foldl_nil, eStep, he]
      by_cases hp : e.1.isPrefixOf ad = true
      · rw [if_pos hp, if_pos hp, Option.bind_some, he]
      · rw [if_neg hp, if_neg hp]
        rfl
    | some j =>
      have hj := ilt j hb
      obtain ⟨b', hb'⟩ := get_of (l := rt) (i := j) (by omega)
      simp only [Option.bind_some, hb', List.foldl_cons, List.foldl_nil, eStep, he]
      by_cases hp : e.1.isPrefixOf ad = true
      · rw [if_pos hp, if_pos hp]
        by_cases hl : b'.1.length < e.1.length
        · rw [if_pos hl, if_pos hl, Option.bind_some, he]
        · rw [if_neg hl, if_neg hl, Option.bind_some, hb']
      · rw [if_neg hp, if_neg hp, Option.bind_some, hb']
def bestI (x : Nat) : Option Nat → Int32
  | none => -1
  | some i => nI (16 * x + i)
set_option maxRecDepth 20000 in
theorem l_Mod_entry {G : Gt} {B : Bt} {o : Nat} {A : Nat → Nat} {Fi : Nat → Int32} {M : Nat → Nat → Int32} {Ml : Nat → Nat → Int64} (hI : mInj o A) {R : Nat → List RtE} (hRt : RRt R (M 10) (Ml 11) (M 12) (M 13) (M 14)) {x : Nat} (hx : x < 6) (hR16 : (R x).length ≤ 16) (hRo : ∀ e ∈ R x, (1 ≤ e.1.length ∧ e.1.length ≤ 8) ∧ ∀ b ∈ e.1, 65 ≤ b ∧ b ≤ 90) {ad : List Nat} (had : ad8 ad) (KK : WP G m_Mod_entry B 128 [(4, .int (bestI x (eIdx (R x) ad (R x).length)))] [] (hM o A Fi M Ml) 0 0) : ∀ (f k i : Nat) (z : Int32), (R x).length - k < f → k ≤ (R x).length → i = 16 * x + k → z = bestI x (eIdx (R x) ad k) → WP G m_Mod_entry B 9 [(5, .int (nI i)), (4, .int z), (0, .ref o), (1, .int (nI x)), (2, .long (lN (beN ad)))] [] (hM o A Fi M Ml) 0 0 := by
  intro f
  induction f with
  | zero =>
    intro k i z h1
    omega
  | succ f ih =>
    intro k i z hf hk hi hz
    have had3 := ad8_63 had
    cases hb : eIdx (R x) ad k with
    | none =>
      rw [hb] at hz
      subst hz
      refine wp_iload d_Mod_entry_9 0 rfl ?_
      refine wp_bipush (v := nI 16) d_Mod_entry_11 (by decide) ?_
      refine wp_iload_n d_Mod_entry_13 rfl 3 rfl ?_
      refine wp_imulN d_Mod_entry_14 ?_
      refine wp_aload_n d_Mod_entry_15 rfl 2 rfl ?_
      refine wm_get d_Mod_entry_16 10 (by decide) wF_Mod_32 rfl ?_
      refine wp_iload_n d_Mod_entry_19 rfl 3 rfl ?_
      refine wm_ild (j := 10) (x := (nI ((R x).length))) d_Mod_entry_20 hI (by decide) (by decide) (by show _ < 6; omega) (by decide) ((hRt x hx).1) ?_
      refine wp_iaddN d_Mod_entry_21 ?_
      refine wp_geN (tgt := 128) d_Mod_entry_22 (by decide) (by omega) (by omega) (fun c22 => ?_) (fun c22 => ?_)
      · refine wp_lv [1] rfl ?_
        obtain rfl : k = (R x).length := by omega
        rw [hb] at KK
        exact KK
      · obtain ⟨e, he⟩ := get_of (l := R x) (i := k) (by omega)
        have hem := List.mem_of_getElem? he
        have hrk := (hRt x hx).2 k e he
        have heo := hRo e hem
        have hp3 := pre_63 heo.1 heo.2
        have hiff := isP_iff had heo.1 heo.2
        refine wp_bipush (v := nI 64) d_Mod_entry_25 (by decide) ?_
        refine wp_bipush (v := nI 8) d_Mod_entry_27 (by decide) ?_
        refine wp_aload_n d_Mod_entry_29 rfl 2 rfl ?_
        refine wm_get d_Mod_entry_30 12 (by decide) wF_Mod_39 rfl ?_
        refine wp_iload d_Mod_entry_33 0 rfl ?_
        refine wm_ild (j := 12) (x := (nI (e.1.length))) d_Mod_entry_35 hI (by decide) (by decide) (by show _ < 96; omega) (by decide) (by rw [hi]; exact hrk.2.1) ?_
        refine wp_imulN d_Mod_entry_36 ?_
        refine wp_isubN d_Mod_entry_37 (by omega) ?_
        refine wp_istore (lv' := [(6, .int (nI (64 - (8 * (e.1.length))))), (5, .int (nI i)), (4, .int (-1)), (0, .ref o), (1, .int (nI x)), (2, .long (lN (beN ad)))]) d_Mod_entry_38 (by decide) rfl ?_
        refine wp_iload d_Mod_entry_40 0 rfl ?_
        refine wp_if_neN (tgt := 65) d_Mod_entry_42 (by decide) (by omega) (fun c42 => ?_) (fun c42 => ?_)
        · refine wp_lload_n d_Mod_entry_65 rfl 5 rfl ?_
          refine wp_iload d_Mod_entry_66 0 rfl ?_
          refine wp_lshrN d_Mod_entry_68 (by omega) (by omega) ?_
          refine wp_aload_n d_Mod_entry_69 rfl 3 rfl ?_
          refine wm_get d_Mod_entry_70 11 (by decide) wF_Mod_35 rfl ?_
          refine wp_iload d_Mod_entry_73 1 rfl ?_
          refine wm_lld (j := 11) (x := (lN (beN e.1 * 256 ^ (8 - e.1.length)))) d_Mod_entry_75 hI (by decide) (by decide) (by show _ < 96; omega) (by decide) (by rw [hi]; exact hrk.1) ?_
          refine wp_iload d_Mod_entry_76 0 rfl ?_
          refine wp_lshrN d_Mod_entry_78 (by omega) (by omega) ?_
          refine wp_lcmp d_Mod_entry_79 ?_
          refine wp_if_neC (tgt := 87) d_Mod_entry_80 (by decide) (fun c80 => ?_) (fun c80 => ?_)
          · refine wp_iconst (v := nI 0) d_Mod_entry_87 (by decide) ?_
            refine wp_istore (lv' := [(7, .int (nI 0)), (6, .int (nI (64 - (8 * (e.1.length))))), (5, .int (nI i)), (4, .int (-1)), (0, .ref o), (1, .int (nI x)), (2, .long (lN (beN ad)))]) d_Mod_entry_88 (by decide) rfl ?_
            refine wp_iload d_Mod_entry_90 0 rfl ?_
            refine wp_if_eqN (tgt := 122) d_Mod_entry_92 (by decide) (by omega) (fun _ => ?_) (fun c => absurd c (by decide))
            refine wp_iinc (lv' := [(5, .int (nI (i + 1))), (7, .int (nI 0)), (6, .int (nI (64 - (8 * (e.1.length))))), (4, .int (-1)), (0, .ref o), (1, .int (nI x)), (2, .long (lN (beN ad)))]) d_Mod_entry_122 2 rfl (nI_1 _) (by decide) rfl ?_
            refine wp_goto (tgt := 9) d_Mod_entry_125 (by decide) ?_
            refine wp_lv [0, 3, 4, 5, 6] rfl ?_
            exact ih (k + 1) (i + 1) _ (by omega) (by omega) (by omega) (by rw [eIdx_s]; unfold eStep; rw [he, hb]; simp only [if_neg (by first | exact fun q => c80 (hiff.mpr q) | exact fun q => c54 (by have := hiff.mpr q; rw [c42, Nat.pow_zero, Nat.div_one, Nat.div_one] at this; exact this))]; rfl)
          · refine wp_iconst (v := nI 1) d_Mod_entry_83 (by decide) ?_
            refine wp_goto (tgt := 88) d_Mod_entry_84 (by decide) ?_
            refine wp_istore (lv' := [(7, .int (nI 1)), (6, .int (nI (64 - (8 * (e.1.length))))), (5, .int (nI i)), (4, .int (-1)), (0, .ref o), (1, .int (nI x)), (2, .long (lN (beN ad)))]) d_Mod_entry_88 (by decide) rfl ?_
            refine wp_iload d_Mod_entry_90 0 rfl ?_
            refine wp_if_eqN (tgt := 122) d_Mod_entry_92 (by decide) (by omega) (fun c => absurd c (by decide)) (fun _ => ?_)
            refine wp_iload d_Mod_entry_95 3 rfl ?_
            refine wp_iconst (v := -1) d_Mod_entry_97 (by decide) ?_
            refine wp_icmp_eq (tgt := 118) d_Mod_entry_98 (by decide) (fun _ => ?_) (fun c => absurd c (by decide))
            refine wp_iload d_Mod_entry_118 2 rfl ?_
            refine wp_istore (lv' := [(4, .int (nI i)), (7, .int (nI 1)), (6, .int (nI (64 - (8 * (e.1.length))))), (5, .int (nI i)), (0, .ref o), (1, .int (nI x)), (2, .long (lN (beN ad)))]) d_Mod_entry_120 (by decide) rfl ?_
            refine wp_iinc (lv' := [(5, .int (nI (i + 1))), (4, .int (nI i)), (7, .int (nI 1)), (6, .int (nI (64 - (8 * (e.1.length))))), (0, .ref o), (1, .int (nI x)), (2, .long (lN (beN ad)))]) d_Mod_entry_122 3 rfl (nI_1 _) (by decide) rfl ?_
            refine wp_goto (tgt := 9) d_Mod_entry_125 (by decide) ?_
            refine wp_lv [0, 1, 4, 5, 6] rfl ?_
            exact ih (k + 1) (i + 1) _ (by omega) (by omega) (by omega) (by rw [eIdx_s]; unfold eStep; rw [he, hb]; simp only [if_pos (by first | exact hiff.mp c80 | exact hiff.mp (by rw [c42, Nat.pow_zero, Nat.div_one, Nat.div_one]; exact c54))]; rw [hi]; rfl)
        · refine wp_lload_n d_Mod_entry_45 rfl 5 rfl ?_
          refine wp_aload_n d_Mod_entry_46 rfl 3 rfl ?_
          refine wm_get d_Mod_entry_47 11 (by decide) wF_Mod_35 rfl ?_
          refine wp_iload d_Mod_entry_50 1 rfl ?_
          refine wm_lld (j := 11) (x := (lN (beN e.1 * 256 ^ (8 - e.1.length)))) d_Mod_entry_52 hI (by decide) (by decide) (by show _ < 96; omega) (by decide) (by rw [hi]; exact hrk.1) ?_
          refine wp_lcmp d_Mod_entry_53 ?_
          refine wp_if_neC (tgt := 61) d_Mod_entry_54 (by decide) (fun c54 => ?_) (fun c54 => ?_)
          · refine wp_iconst (v := nI 0) d_Mod_entry_61 (by decide) ?_
            refine wp_goto (tgt := 88) d_Mod_entry_62 (by decide) ?_
            refine wp_istore (lv' := [(7, .int (nI 0)), (6, .int (nI (64 - (8 * (e.1.length))))), (5, .int (nI i)), (4, .int (-1)), (0, .ref o), (1, .int (nI x)), (2, .long (lN (beN ad)))]) d_Mod_entry_88 (by decide) rfl ?_
            refine wp_iload d_Mod_entry_90 0 rfl ?_
            refine wp_if_eqN (tgt := 122) d_Mod_entry_92 (by decide) (by omega) (fun _ => ?_) (fun c => absurd c (by decide))
            refine wp_iinc (lv' := [(5, .int (nI (i + 1))), (7, .int (nI 0)), (6, .int (nI (64 - (8 * (e.1.length))))), (4, .int (-1)), (0, .ref o), (1, .int (nI x)), (2, .long (lN (beN ad)))]) d_Mod_entry_122 2 rfl (nI_1 _) (by decide) rfl ?_
            refine wp_goto (tgt := 9) d_Mod_entry_125 (by decide) ?_
            refine wp_lv [0, 3, 4, 5, 6] rfl ?_
            exact ih (k + 1) (i + 1) _ (by omega) (by omega) (by omega) (by rw [eIdx_s]; unfold eStep; rw [he, hb]; simp only [if_neg (by first | exact fun q => c80 (hiff.mpr q) | exact fun q => c54 (by have := hiff.mpr q; rw [c42, Nat.pow_zero, Nat.div_one, Nat.div_one] at this; exact this))]; rfl)
          · refine wp_iconst (v := nI 1) d_Mod_entry_57 (by decide) ?_
            refine wp_goto (tgt := 88) d_Mod_entry_58 (by decide) ?_
            refine wp_istore (lv' := [(7, .int (nI 1)), (6, .int (nI (64 - (8 * (e.1.length))))), (5, .int (nI i)), (4, .int (-1)), (0, .ref o), (1, .int (nI x)), (2, .long (lN (beN ad)))]) d_Mod_entry_88 (by decide) rfl ?_
            refine wp_iload d_Mod_entry_90 0 rfl ?_
            refine wp_if_eqN (tgt := 122) d_Mod_entry_92 (by decide) (by omega) (fun c => absurd c (by decide)) (fun _ => ?_)
            refine wp_iload d_Mod_entry_95 3 rfl ?_
            refine wp_iconst (v := -1) d_Mod_entry_97 (by decide) ?_
            refine wp_icmp_eq (tgt := 118) d_Mod_entry_98 (by decide) (fun _ => ?_) (fun c => absurd c (by decide))
            refine wp_iload d_Mod_entry_118 2 rfl ?_
            refine wp_istore (lv' := [(4, .int (nI i)), (7, .int (nI 1)), (6, .int (nI (64 - (8 * (e.1.length))))), (5, .int (nI i)), (0, .ref o), (1, .int (nI x)), (2, .long (lN (beN ad)))]) d_Mod_entry_120 (by decide) rfl ?_
            refine wp_iinc (lv' := [(5, .int (nI (i + 1))), (4, .int (nI i)), (7, .int (nI 1)), (6, .int (nI (64 - (8 * (e.1.length))))), (0, .ref o), (1, .int (nI x)), (2, .long (lN (beN ad)))]) d_Mod_entry_122 3 rfl (nI_1 _) (by decide) rfl ?_
            refine wp_goto (tgt := 9) d_Mod_entry_125 (by decide) ?_
            refine wp_lv [0, 1, 4, 5, 6] rfl ?_
            exact ih (k + 1) (i + 1) _ (by omega) (by omega) (by omega) (by rw [eIdx_s]; unfold eStep; rw [he, hb]; simp only [if_pos (by first | exact hiff.mp c80 | exact hiff.mp (by rw [c42, Nat.pow_zero, Nat.div_one, Nat.div_one]; exact c54))]; rw [hi]; rfl)
    | some j =>
      rw [hb] at hz
      subst hz
      have hjk := eIdx_lt (R x) ad k hk j hb
      obtain ⟨b, hbg⟩ := get_of (l := R x) (i := j) (by omega)
      have hbj := (hRt x hx).2 j b hbg
      have hbo := hRo b (List.mem_of_getElem? hbg)
      refine wp_iload d_Mod_entry_9 0 rfl ?_
      refine wp_bipush (v := nI 16) d_Mod_entry_11 (by decide) ?_
      refine wp_iload_n d_Mod_entry_13 rfl 3 rfl ?_
      refine wp_imulN d_Mod_entry_14 ?_
      refine wp_aload_n d_Mod_entry_15 rfl 2 rfl ?_
      refine wm_get d_Mod_entry_16 10 (by decide) wF_Mod_32 rfl ?_
      refine wp_iload_n d_Mod_entry_19 rfl 3 rfl ?_
      refine wm_ild (j := 10) (x := (nI ((R x).length))) d_Mod_entry_20 hI (by decide) (by decide) (by show _ < 6; omega) (by decide) ((hRt x hx).1) ?_
      refine wp_iaddN d_Mod_entry_21 ?_
      refine wp_geN (tgt := 128) d_Mod_entry_22 (by decide) (by omega) (by omega) (fun c22 => ?_) (fun c22 => ?_)
      · refine wp_lv [1] rfl ?_
        obtain rfl : k = (R x).length := by omega
        rw [hb] at KK
        exact KK
      · obtain ⟨e, he⟩ := get_of (l := R x) (i := k) (by omega)
        have hem := List.mem_of_getElem? he
        have hrk := (hRt x hx).2 k e he
        have heo := hRo e hem
        have hp3 := pre_63 heo.1 heo.2
        have hiff := isP_iff had heo.1 heo.2
        refine wp_bipush (v := nI 64) d_Mod_entry_25 (by decide) ?_
        refine wp_bipush (v := nI 8) d_Mod_entry_27 (by decide) ?_
        refine wp_aload_n d_Mod_entry_29 rfl 2 rfl ?_
        refine wm_get d_Mod_entry_30 12 (by decide) wF_Mod_39 rfl ?_
        refine wp_iload d_Mod_entry_33 0 rfl ?_
        refine wm_ild (j := 12) (x := (nI (e.1.length))) d_Mod_entry_35 hI (by decide) (by decide) (by show _ < 96; omega) (by decide) (by rw [hi]; exact hrk.2.1) ?_
        refine wp_imulN d_Mod_entry_36 ?_
        refine wp_isubN d_Mod_entry_37 (by omega) ?_
        refine wp_istore (lv' := [(6, .int (nI (64 - (8 * (e.1.length))))), (5, .int (nI i)), (4, .int (nI (16 * x + j))), (0, .ref o), (1, .int (nI x)), (2, .long (lN (beN ad)))]) d_Mod_entry_38 (by decide) rfl ?_
        refine wp_iload d_Mod_entry_40 0 rfl ?_
        refine wp_if_neN (tgt := 65) d_Mod_entry_42 (by decide) (by omega) (fun c42 => ?_) (fun c42 => ?_)
        · refine wp_lload_n d_Mod_entry_65 rfl 5 rfl ?_
          refine wp_iload d_Mod_entry_66 0 rfl ?_
          refine wp_lshrN d_Mod_entry_68 (by omega) (by omega) ?_
          refine wp_aload_n d_Mod_entry_69 rfl 3 rfl ?_
          refine wm_get d_Mod_entry_70 11 (by decide) wF_Mod_35 rfl ?_
          refine wp_iload d_Mod_entry_73 1 rfl ?_
          refine wm_lld (j := 11) (x := (lN (beN e.1 * 256 ^ (8 - e.1.length)))) d_Mod_entry_75 hI (by decide) (by decide) (by show _ < 96; omega) (by decide) (by rw [hi]; exact hrk.1) ?_
          refine wp_iload d_Mod_entry_76 0 rfl ?_
          refine wp_lshrN d_Mod_entry_78 (by omega) (by omega) ?_
          refine wp_lcmp d_Mod_entry_79 ?_
          refine wp_if_neC (tgt := 87) d_Mod_entry_80 (by decide) (fun c80 => ?_) (fun c80 => ?_)
          · refine wp_iconst (v := nI 0) d_Mod_entry_87 (by decide) ?_
            refine wp_istore (lv' := [(7, .int (nI 0)), (6, .int (nI (64 - (8 * (e.1.length))))), (5, .int (nI i)), (4, .int (nI (16 * x + j))), (0, .ref o), (1, .int (nI x)), (2, .long (lN (beN ad)))]) d_Mod_entry_88 (by decide) rfl ?_
            refine wp_iload d_Mod_entry_90 0 rfl ?_
            refine wp_if_eqN (tgt := 122) d_Mod_entry_92 (by decide) (by omega) (fun _ => ?_) (fun c => absurd c (by decide))
            refine wp_iinc (lv' := [(5, .int (nI (i + 1))), (7, .int (nI 0)), (6, .int (nI (64 - (8 * (e.1.length))))), (4, .int (nI (16 * x + j))), (0, .ref o), (1, .int (nI x)), (2, .long (lN (beN ad)))]) d_Mod_entry_122 2 rfl (nI_1 _) (by decide) rfl ?_
            refine wp_goto (tgt := 9) d_Mod_entry_125 (by decide) ?_
            refine wp_lv [0, 3, 4, 5, 6] rfl ?_
            exact ih (k + 1) (i + 1) _ (by omega) (by omega) (by omega) (by rw [eIdx_s]; unfold eStep; rw [he, hb]; first | (simp only [if_pos (by first | exact hiff.mp c80 | exact hiff.mp (by rw [c42, Nat.pow_zero, Nat.div_one, Nat.div_one]; exact c54)), hbg, if_neg (show ¬ b.1.length < e.1.length by omega)]; rfl) | (simp only [if_neg (by first | exact fun q => c80 (hiff.mpr q) | exact fun q => c54 (by have := hiff.mpr q; rw [c42, Nat.pow_zero, Nat.div_one, Nat.div_one] at this; exact this))]; rfl))
          · refine wp_iconst (v := nI 1) d_Mod_entry_83 (by decide) ?_
            refine wp_goto (tgt := 88) d_Mod_entry_84 (by decide) ?_
            refine wp_istore (lv' := [(7, .int (nI 1)), (6, .int (nI (64 - (8 * (e.1.length))))), (5, .int (nI i)), (4, .int (nI (16 * x + j))), (0, .ref o), (1, .int (nI x)), (2, .long (lN (beN ad)))]) d_Mod_entry_88 (by decide) rfl ?_
            refine wp_iload d_Mod_entry_90 0 rfl ?_
            refine wp_if_eqN (tgt := 122) d_Mod_entry_92 (by decide) (by omega) (fun c => absurd c (by decide)) (fun _ => ?_)
            refine wp_iload d_Mod_entry_95 3 rfl ?_
            refine wp_iconst (v := -1) d_Mod_entry_97 (by decide) ?_
            refine wp_icmp_eq (tgt := 118) d_Mod_entry_98 (by decide) (fun c => absurd c (nI_m1 (by omega))) (fun _ => ?_)
            refine wp_aload_n d_Mod_entry_101 rfl 4 rfl ?_
            refine wm_get d_Mod_entry_102 12 (by decide) wF_Mod_39 rfl ?_
            refine wp_iload d_Mod_entry_105 2 rfl ?_
            refine wm_ild (j := 12) (x := (nI (e.1.length))) d_Mod_entry_107 hI (by decide) (by decide) (by show _ < 96; omega) (by decide) (by rw [hi]; exact hrk.2.1) ?_
            refine wp_aload_n d_Mod_entry_108 rfl 4 rfl ?_
            refine wm_get d_Mod_entry_109 12 (by decide) wF_Mod_39 rfl ?_
            refine wp_iload d_Mod_entry_112 3 rfl ?_
            refine wm_ild (j := 12) (x := (nI (b.1.length))) d_Mod_entry_114 hI (by decide) (by decide) (by show _ < 96; omega) (by decide) (hbj.2.1) ?_
            refine wp_leN (tgt := 122) d_Mod_entry_115 (by decide) (by omega) (by omega) (fun c115 => ?_) (fun c115 => ?_)
            · refine wp_iinc (lv' := [(5, .int (nI (i + 1))), (7, .int (nI 1)), (6, .int (nI (64 - (8 * (e.1.length))))), (4, .int (nI (16 * x + j))), (0, .ref o), (1, .int (nI x)), (2, .long (lN (beN ad)))]) d_Mod_entry_122 2 rfl (nI_1 _) (by decide) rfl ?_
              refine wp_goto (tgt := 9) d_Mod_entry_125 (by decide) ?_
              refine wp_lv [0, 3, 4, 5, 6] rfl ?_
              exact ih (k + 1) (i + 1) _ (by omega) (by omega) (by omega) (by rw [eIdx_s]; unfold eStep; rw [he, hb]; first | (simp only [if_pos (by first | exact hiff.mp c80 | exact hiff.mp (by rw [c42, Nat.pow_zero, Nat.div_one, Nat.div_one]; exact c54)), hbg, if_neg (show ¬ b.1.length < e.1.length by omega)]; rfl) | (simp only [if_neg (by first | exact fun q => c80 (hiff.mpr q) | exact fun q => c54 (by have := hiff.mpr q; rw [c42, Nat.pow_zero, Nat.div_one, Nat.div_one] at this; exact this))]; rfl))
            · refine wp_iload d_Mod_entry_118 2 rfl ?_
              refine wp_istore (lv' := [(4, .int (nI i)), (7, .int (nI 1)), (6, .int (nI (64 - (8 * (e.1.length))))), (5, .int (nI i)), (0, .ref o), (1, .int (nI x)), (2, .long (lN (beN ad)))]) d_Mod_entry_120 (by decide) rfl ?_
              refine wp_iinc (lv' := [(5, .int (nI (i + 1))), (4, .int (nI i)), (7, .int (nI 1)), (6, .int (nI (64 - (8 * (e.1.length))))), (0, .ref o), (1, .int (nI x)), (2, .long (lN (beN ad)))]) d_Mod_entry_122 3 rfl (nI_1 _) (by decide) rfl ?_
              refine wp_goto (tgt := 9) d_Mod_entry_125 (by decide) ?_
              refine wp_lv [0, 1, 4, 5, 6] rfl ?_
              exact ih (k + 1) (i + 1) _ (by omega) (by omega) (by omega) (by rw [eIdx_s]; unfold eStep; rw [he, hb]; simp only [if_pos (by first | exact hiff.mp c80 | exact hiff.mp (by rw [c42, Nat.pow_zero, Nat.div_one, Nat.div_one]; exact c54)), hbg, if_pos c115]; rw [hi]; rfl)
        · refine wp_lload_n d_Mod_entry_45 rfl 5 rfl ?_
          refine wp_aload_n d_Mod_entry_46 rfl 3 rfl ?_
          refine wm_get d_Mod_entry_47 11 (by decide) wF_Mod_35 rfl ?_
          refine wp_iload d_Mod_entry_50 1 rfl ?_
          refine wm_lld (j := 11) (x := (lN (beN e.1 * 256 ^ (8 - e.1.length)))) d_Mod_entry_52 hI (by decide) (by decide) (by show _ < 96; omega) (by decide) (by rw [hi]; exact hrk.1) ?_
          refine wp_lcmp d_Mod_entry_53 ?_
          refine wp_if_neC (tgt := 61) d_Mod_entry_54 (by decide) (fun c54 => ?_) (fun c54 => ?_)
          · refine wp_iconst (v := nI 0) d_Mod_entry_61 (by decide) ?_
            refine wp_goto (tgt := 88) d_Mod_entry_62 (by decide) ?_
            refine wp_istore (lv' := [(7, .int (nI 0)), (6, .int (nI (64 - (8 * (e.1.length))))), (5, .int (nI i)), (4, .int (nI (16 * x + j))), (0, .ref o), (1, .int (nI x)), (2, .long (lN (beN ad)))]) d_Mod_entry_88 (by decide) rfl ?_
            refine wp_iload d_Mod_entry_90 0 rfl ?_
            refine wp_if_eqN (tgt := 122) d_Mod_entry_92 (by decide) (by omega) (fun _ => ?_) (fun c => absurd c (by decide))
            refine wp_iinc (lv' := [(5, .int (nI (i + 1))), (7, .int (nI 0)), (6, .int (nI (64 - (8 * (e.1.length))))), (4, .int (nI (16 * x + j))), (0, .ref o), (1, .int (nI x)), (2, .long (lN (beN ad)))]) d_Mod_entry_122 2 rfl (nI_1 _) (by decide) rfl ?_
            refine wp_goto (tgt := 9) d_Mod_entry_125 (by decide) ?_
            refine wp_lv [0, 3, 4, 5, 6] rfl ?_
            exact ih (k + 1) (i + 1) _ (by omega) (by omega) (by omega) (by rw [eIdx_s]; unfold eStep; rw [he, hb]; first | (simp only [if_pos (by first | exact hiff.mp c80 | exact hiff.mp (by rw [c42, Nat.pow_zero, Nat.div_one, Nat.div_one]; exact c54)), hbg, if_neg (show ¬ b.1.length < e.1.length by omega)]; rfl) | (simp only [if_neg (by first | exact fun q => c80 (hiff.mpr q) | exact fun q => c54 (by have := hiff.mpr q; rw [c42, Nat.pow_zero, Nat.div_one, Nat.div_one] at this; exact this))]; rfl))
          · refine wp_iconst (v := nI 1) d_Mod_entry_57 (by decide) ?_
            refine wp_goto (tgt := 88) d_Mod_entry_58 (by decide) ?_
            refine wp_istore (lv' := [(7, .int (nI 1)), (6, .int (nI (64 - (8 * (e.1.length))))), (5, .int (nI i)), (4, .int (nI (16 * x + j))), (0, .ref o), (1, .int (nI x)), (2, .long (lN (beN ad)))]) d_Mod_entry_88 (by decide) rfl ?_
            refine wp_iload d_Mod_entry_90 0 rfl ?_
            refine wp_if_eqN (tgt := 122) d_Mod_entry_92 (by decide) (by omega) (fun c => absurd c (by decide)) (fun _ => ?_)
            refine wp_iload d_Mod_entry_95 3 rfl ?_
            refine wp_iconst (v := -1) d_Mod_entry_97 (by decide) ?_
            refine wp_icmp_eq (tgt := 118) d_Mod_entry_98 (by decide) (fun c => absurd c (nI_m1 (by omega))) (fun _ => ?_)
            refine wp_aload_n d_Mod_entry_101 rfl 4 rfl ?_
            refine wm_get d_Mod_entry_102 12 (by decide) wF_Mod_39 rfl ?_
            refine wp_iload d_Mod_entry_105 2 rfl ?_
            refine wm_ild (j := 12) (x := (nI (e.1.length))) d_Mod_entry_107 hI (by decide) (by decide) (by show _ < 96; omega) (by decide) (by rw [hi]; exact hrk.2.1) ?_
            refine wp_aload_n d_Mod_entry_108 rfl 4 rfl ?_
            refine wm_get d_Mod_entry_109 12 (by decide) wF_Mod_39 rfl ?_
            refine wp_iload d_Mod_entry_112 3 rfl ?_
            refine wm_ild (j := 12) (x := (nI (b.1.length))) d_Mod_entry_114 hI (by decide) (by decide) (by show _ < 96; omega) (by decide) (hbj.2.1) ?_
            refine wp_leN (tgt := 122) d_Mod_entry_115 (by decide) (by omega) (by omega) (fun c115 => ?_) (fun c115 => ?_)
            · refine wp_iinc (lv' := [(5, .int (nI (i + 1))), (7, .int (nI 1)), (6, .int (nI (64 - (8 * (e.1.length))))), (4, .int (nI (16 * x + j))), (0, .ref o), (1, .int (nI x)), (2, .long (lN (beN ad)))]) d_Mod_entry_122 2 rfl (nI_1 _) (by decide) rfl ?_
              refine wp_goto (tgt := 9) d_Mod_entry_125 (by decide) ?_
              refine wp_lv [0, 3, 4, 5, 6] rfl ?_
              exact ih (k + 1) (i + 1) _ (by omega) (by omega) (by omega) (by rw [eIdx_s]; unfold eStep; rw [he, hb]; first | (simp only [if_pos (by first | exact hiff.mp c80 | exact hiff.mp (by rw [c42, Nat.pow_zero, Nat.div_one, Nat.div_one]; exact c54)), hbg, if_neg (show ¬ b.1.length < e.1.length by omega)]; rfl) | (simp only [if_neg (by first | exact fun q => c80 (hiff.mpr q) | exact fun q => c54 (by have := hiff.mpr q; rw [c42, Nat.pow_zero, Nat.div_one, Nat.div_one] at this; exact this))]; rfl))
            · refine wp_iload d_Mod_entry_118 2 rfl ?_
              refine wp_istore (lv' := [(4, .int (nI i)), (7, .int (nI 1)), (6, .int (nI (64 - (8 * (e.1.length))))), (5, .int (nI i)), (0, .ref o), (1, .int (nI x)), (2, .long (lN (beN ad)))]) d_Mod_entry_120 (by decide) rfl ?_
              refine wp_iinc (lv' := [(5, .int (nI (i + 1))), (4, .int (nI i)), (7, .int (nI 1)), (6, .int (nI (64 - (8 * (e.1.length))))), (0, .ref o), (1, .int (nI x)), (2, .long (lN (beN ad)))]) d_Mod_entry_122 3 rfl (nI_1 _) (by decide) rfl ?_
              refine wp_goto (tgt := 9) d_Mod_entry_125 (by decide) ?_
              refine wp_lv [0, 1, 4, 5, 6] rfl ?_
              exact ih (k + 1) (i + 1) _ (by omega) (by omega) (by omega) (by rw [eIdx_s]; unfold eStep; rw [he, hb]; simp only [if_pos (by first | exact hiff.mp c80 | exact hiff.mp (by rw [c42, Nat.pow_zero, Nat.div_one, Nat.div_one]; exact c54)), hbg, if_pos c115]; rw [hi]; rfl)
set_option maxRecDepth 20000 in
theorem c_Mod_entry {G : Gt} {o : Nat} {A : Nat → Nat} {Fi : Nat → Int32} {M : Nat → Nat → Int32} {Ml : Nat → Nat → Int64} (hI : mInj o A) {R : Nat → List RtE} (hRt : RRt R (M 10) (Ml 11) (M 12) (M 13) (M 14)) {x : Nat} (hx : x < 6) (hR16 : (R x).length ≤ 16) (hRo : ∀ e ∈ R x, (1 ≤ e.1.length ∧ e.1.length ≤ 8) ∧ ∀ b ∈ e.1, 65 ≤ b ∧ b ≤ 90) {ad : List Nat} (had : ad8 ad) : CallR G m_Mod_entry 0 0 [.ref o, .int (nI x), .long (lN (beN ad))] (hM o A Fi M Ml) 0 0 (some (.int (bestI x (eIdx (R x) ad (R x).length)))) (hM o A Fi M Ml) := by
  refine CallS.of (Nat.le_of_ble_eq_true rfl) ?_
  refine wp_iconst (v := -1) d_Mod_entry_0 (by decide) ?_
  refine wp_istore (lv' := [(4, .int (-1)), (0, .ref o), (1, .int (nI x)), (2, .long (lN (beN ad)))]) d_Mod_entry_1 (by decide) rfl ?_
  refine wp_bipush (v := nI 16) d_Mod_entry_3 (by decide) ?_
  refine wp_iload_n d_Mod_entry_5 rfl 2 rfl ?_
  refine wp_imulN d_Mod_entry_6 ?_
  refine wp_istore (lv' := [(5, .int (nI (16 * x))), (4, .int (-1)), (0, .ref o), (1, .int (nI x)), (2, .long (lN (beN ad)))]) d_Mod_entry_7 (by decide) rfl ?_
  refine wp_lv [0, 1, 2, 3, 4] rfl ?_
  refine l_Mod_entry hI hRt hx hR16 hRo had ?_ ((R x).length + 1) 0 _ _ (by omega) (by omega) rfl rfl
  refine wp_iload d_Mod_entry_128 0 rfl ?_
  exact wp_iret d_Mod_entry_130 rfl ⟨rfl, rfl⟩
end Mod21
