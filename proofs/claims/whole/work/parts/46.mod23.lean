section Mod23
/-- what does not change while a copy is parted -/
def CS (s : Sa) (x : Nat) : Prop := (∀ l a b v, sLn s l = some (a, b, v) → a < 6 ∧ b < 6) ∧ (sRt s x).length ≤ 16 ∧ (∀ e ∈ sRt s x, okRt s x e) ∧ ∀ r ∈ sMs s, ∀ a ∈ r.2.1, ad8 a
abbrev sameC (s t : Sa) : Prop := sLn t = sLn s ∧ sRt t = sRt s ∧ sMs t = sMs s ∧ sCp t = sCp s ∧ sCh t = sCh s ∧ sMin t = sMin s ∧ sLog t = sLog s
def CF (s : Sa) (k : Nat) (q : Sa × (Nat → Nat)) : Prop := sameC s q.1 ∧ CI q.1 ∧ (∀ l, q.2 l < 2 ^ k) ∧ ∀ l, l < 8 → q.2 l ≠ 0 → serves s l = true
theorem serves_eq {s t : Sa} (h : sLn t = sLn s) (l : Nat) : serves t l = serves s l := by unfold serves; rw [h]
theorem takesB_eq {s t : Sa} (h : sLn t = sLn s) (l : Option Nat) (by1 : Nat) : takesB t l by1 = takesB s l by1 := by
  unfold takesB
  cases l with
  | none => rfl
  | some j => simp only [serves_eq h]
theorem deliverS_same (s : Sa) (x m k : Nat) : sameC s (deliverS s x m k) := by
  unfold deliverS
  split
  · exact ⟨rfl, rfl, rfl, rfl, rfl, rfl, rfl⟩
  · simp only
    split <;> exact ⟨rfl, rfl, rfl, rfl, rfl, rfl, rfl⟩
theorem deliverS_CI {s : Sa} {x m k : Nat} (hC : CI s) (hm : 1 ≤ m ∧ m ≤ (sMs s).length) (hk : k < cntOf s m) : CI (deliverS s x m k) := by
  unfold deliverS
  split
  · exact hC
  · rename_i hb
    have hb2 : (sCm s m).testBit k = false := by simpa using hb
    have h1 : ∀ i, va_up (sCm s) m (sCm s m + 2 ^ k) i < 2 ^ cntOf s i := by
      intro i
      unfold va_up
      by_cases hi : i = m
      · rw [if_pos hi, hi]
        exact bit_lt (hC.2.1 m) hk hb2
      · rw [if_neg hi]
        exact hC.2.1 i
    simp only
    split
    · exact ⟨hC.1, h1, hC.2.2.1, hC.2.2.2⟩
    · rename_i hd
      refine ⟨hC.1, h1, hC.2.2.1, fun i => ?_⟩
      show (va_up (sDk s) x (sDk s x ++ [m]) i).Nodup ∧ ∀ a ∈ va_up (sDk s) x (sDk s x ++ [m]) i, 1 ≤ a ∧ a ≤ (sMs s).length
      unfold va_up
      by_cases hi : i = x
      · rw [if_pos hi]
        constructor
        · rw [List.nodup_append]
          refine ⟨(hC.2.2.2 x).1, by simp, fun a ha b hb q => ?_⟩
          rw [List.mem_singleton.mp hb] at q
          exact hd (q ▸ ha)
        · intro a ha
          rcases List.mem_append.mp ha with ha | ha
          · exact (hC.2.2.2 x).2 a ha
          · rw [List.mem_singleton.mp ha]; exact hm
      · rw [if_neg hi]
        exact hC.2.2.2 i
section Cases
variable {x m by1 set k : Nat} {as : List (List Nat)} {a : List Nat} {q : Sa × (Nat → Nat)}
theorem cs_skip (h : set.testBit k = false) : comeStep x m by1 as set k q = q := by unfold comeStep; rw [if_pos h]
theorem cs_unk (h : set.testBit k = true) (ha : as.getD k [] = a) (he : entryOf (sRt q.1 x) a = none) : comeStep x m by1 as set k q = (wUn q.1 (va_up (sUn q.1) x (sUn q.1 x + 1)), q.2) := by
  unfold comeStep
  rw [if_neg (by rw [h]; decide), ha, he]
theorem cs_del {p : List Nat} {ot : Option Nat} (h : set.testBit k = true) (ha : as.getD k [] = a) (he : entryOf (sRt q.1 x) a = some (p, none, ot)) : comeStep x m by1 as set k q = (deliverS q.1 x m k, q.2) := by
  unfold comeStep
  rw [if_neg (by rw [h]; decide), ha, he]
theorem cs_line {p : List Nat} {j : Nat} {ot : Option Nat} (h : set.testBit k = true) (ha : as.getD k [] = a) (he : entryOf (sRt q.1 x) a = some (p, some j, ot)) : comeStep x m by1 as set k q = if takesB q.1 (some j) by1 then (q.1, va_up q.2 j (q.2 j + 2 ^ k)) else if takesB q.1 ot by1 then (q.1, va_up q.2 (ot.getD 0) (q.2 (ot.getD 0) + 2 ^ k)) else (q.1, va_up q.2 8 (q.2 8 + 2 ^ k)) := by
  unfold comeStep
  rw [if_neg (by rw [h]; decide), ha, he]
end Cases
theorem takesB_serves {s : Sa} {j by1 : Nat} (h : takesB s (some j) by1 = true) : serves s j = true := by
  unfold takesB at h
  simp only [Bool.and_eq_true] at h
  exact h.2
theorem CF_sh {s : Sa} {k j : Nat} {q : Sa × (Nat → Nat)} (h : CF s k q) (hj : j < 8 → serves s j = true) : CF s (k + 1) (q.1, va_up q.2 j (q.2 j + 2 ^ k)) := by
  obtain ⟨h1, h2, h3, h4⟩ := h
  refine ⟨h1, h2, fun l => ?_, fun l hl hq => ?_⟩
  · show va_up q.2 j (q.2 j + 2 ^ k) l < _
    unfold va_up
    have := h3 l
    have := h3 j
    rw [Nat.pow_succ]
    split <;> omega
  · by_cases hlj : l = j
    · rw [hlj]; exact hj (hlj ▸ hl)
    · refine h4 l hl ?_
      have : va_up q.2 j (q.2 j + 2 ^ k) l ≠ 0 := hq
      simpa [va_up, hlj] using this
theorem CF_up {s : Sa} {k : Nat} {q : Sa × (Nat → Nat)} (h : CF s k q) : CF s (k + 1) q := by
  refine ⟨h.1, h.2.1, fun l => ?_, h.2.2.2⟩
  have := h.2.2.1 l
  rw [Nat.pow_succ]
  omega
theorem CF_step {s : Sa} {x m by1 set k : Nat} {as : List (List Nat)} {q : Sa × (Nat → Nat)} (h : CF s k q) (hm : 1 ≤ m ∧ m ≤ (sMs s).length) (hk : k < cntOf s m) : CF s (k + 1) (comeStep x m by1 as set k q) := by
  have hcnt : cntOf q.1 m = cntOf s m := by unfold cntOf; rw [h.1.2.2.1]
  have hm2 : 1 ≤ m ∧ m ≤ (sMs q.1).length := by rw [h.1.2.2.1]; exact hm
  cases hb : set.testBit k with
  | false => rw [cs_skip hb]; exact CF_up h
  | true =>
    cases he : entryOf (sRt q.1 x) (as.getD k []) with
    | none =>
      rw [cs_unk hb rfl he]
      exact ⟨h.1, h.2.1, (CF_up h).2.2⟩
    | some e =>
      obtain ⟨p, mn, ot⟩ := e
      cases mn with
      | none =>
        rw [cs_del hb rfl he]
        obtain ⟨a1, a2, a3, a4, a5, a6, a7⟩ := deliverS_same q.1 x m k
        obtain ⟨b1, b2, b3, b4, b5, b6, b7⟩ := h.1
        exact ⟨⟨a1.trans b1, a2.trans b2, a3.trans b3, a4.trans b4, a5.trans b5, a6.trans b6, a7.trans b7⟩, deliverS_CI h.2.1 hm2 (by rw [hcnt]; exact hk), (CF_up h).2.2⟩
      | some j =>
        rw [cs_line hb rfl he]
        split
        · rename_i ht
          exact CF_sh h (fun _ => by rw [← serves_eq h.1.1]; exact takesB_serves ht)
        · split
          · rename_i ht
            cases ot with
            | none => cases ht
            | some j2 => exact CF_sh h (fun _ => by rw [← serves_eq h.1.1]; exact takesB_serves ht)
          · exact CF_sh h (fun h8 => absurd h8 (by decide))
theorem CF_loop {s : Sa} {x m by1 set : Nat} {as : List (List Nat)} (hC : CI s) (hm : 1 ≤ m ∧ m ≤ (sMs s).length) : ∀ k, k ≤ cntOf s m → CF s k (comeLoop x m by1 as set k (s, fun _ => 0))
  | 0, _ => ⟨⟨rfl, rfl, rfl, rfl, rfl, rfl, rfl⟩, hC, fun _ => (show 0 < 1 by decide), fun _ _ h => absurd rfl h⟩
  | k + 1, hk => CF_step (CF_loop hC hm k (by omega)) hm (by omega)
theorem share_s (s : Sa) (x m : Nat) (sh : Nat → Nat) (l : Nat) : shareCopies s x m sh (l + 1) = shareCopies s x m sh l ++ (if sh l = 0 then [] else [(2 * l + sideOf s l x, m, sh l, 0)]) := by
  unfold shareCopies
  rw [List.range_succ, List.filterMap_append]
  congr 1
  by_cases h : sh l = 0 <;> simp [h]
theorem share_le (s : Sa) (x m : Nat) (sh : Nat → Nat) {l k : Nat} (h : l ≤ k) : (shareCopies s x m sh l).length ≤ (shareCopies s x m sh k).length := by
  induction k with
  | zero => rw [show l = 0 by omega]; exact Nat.le_refl _
  | succ k ih =>
    rcases Nat.lt_or_ge l (k + 1) with h1 | h1
    · rw [share_s, List.length_append]
      have := ih (by omega)
      omega
    · rw [show l = k + 1 by omega]; exact Nat.le_refl _
theorem RCp_add {cs : List (Nat × Nat × Nat × Nat)} {f : Nat → Int32} (h : RCp cs f) (c : Nat × Nat × Nat × Nat) : RCp (cs ++ [c]) (upd f cs.length (nI (encC c))) := by
  intro i d hd
  unfold upd
  by_cases hi : i = cs.length
  · subst hi
    simp at hd
    rw [if_pos rfl, hd]
  · have hlt : i < cs.length := by
      have := (List.getElem?_eq_some_iff.mp hd).1
      simp at this
      omega
    rw [List.getElem?_append_left hlt] at hd
    rw [if_neg hi]
    exact h i d hd
/-- a copy waits -/
theorem rep_wait {s : Sa} {F : Nat → Int32} {X : Nat → Nat → Int32} {Ml : Nat → Nat → Int64} (h : RepM s F X Ml) (c : Nat × Nat × Nat × Nat) : RepM (wCp s (sCp s ++ [c])) (va_up F 22 (nI ((sCp s).length + 1))) (u2 X 23 (sCp s).length (nI (encC c))) Ml := by
  obtain ⟨r1, r2, r3, r4, r5, r6, r7, r8, r9, r10, r11⟩ := h
  refine ⟨⟨r1.1, r1.2.1, r1.2.2.1, ?_⟩, r2, r3, r4, r5, r6, RCp_add r7 c, r8, r9, r10, r11⟩
  show nI _ = nI (sCp s ++ [c]).length
  rw [List.length_append]
  rfl
theorem or_lt {x k : Nat} (h : x < 2 ^ k) : x ||| 2 ^ k = x + 2 ^ k := or_bit (Nat.testBit_lt_two_pow h)
theorem sh_up {X : Nat → Nat → Int32} {sh : Nat → Nat} (h : ∀ l, l ≤ 8 → X 42 l = nI (sh l)) (j v : Nat) : ∀ l, l ≤ 8 → u2 X 42 j (nI v) 42 l = nI (va_up sh j v l) := by
  intro l hl
  rw [u2_at]
  unfold va_up
  by_cases hj : l = j
  · rw [if_pos hj, if_pos hj]
  · rw [if_neg hj, if_neg hj]
    exact h l hl
set_option maxRecDepth 20000 in
theorem l_Mod_comes1 {G : Gt} {B : Bt} {o : Nat} {A : Nat → Nat} {F : Nat → Int32} {Ml : Nat → Nat → Int64} {x m set by1 : Nat} (hI : mInj o A) {s : Sa} (hS : CS s x) (hx : x < 6) (hm : 1 ≤ m ∧ m ≤ (sMs s).length) (hset : set < 2 ^ 7) (hby : by1 ≤ 8) {r : Nat × List (List Nat) × Nat × Nat} (hr : (sMs s)[m - 1]? = some r) (hr7 : r.2.1.length ≤ 7) (hm2 : m ≤ 200) (hB : 1 ≤ Bd B ∧ 19 ≤ Bw B) (KK : ∀ X, RepM (comeLoop x m by1 r.2.1 set r.2.1.length (s, fun _ => 0)).1 F X Ml → (∀ l, l ≤ 8 → X 42 l = nI ((comeLoop x m by1 r.2.1 set r.2.1.length (s, fun _ => 0)).2 l)) → WP G m_Mod_comes B 206 [(5, .int (nI (r.2.1.length))), (0, .ref o), (1, .int (nI x)), (2, .int (nI m)), (4, .int (byI by1))] [] (hM o A F X Ml) 0 0) : ∀ (f k : Nat) (q : Sa × (Nat → Nat)) (X : Nat → Nat → Int32), r.2.1.length - k < f → k ≤ r.2.1.length → q = comeLoop x m by1 r.2.1 set k (s, fun _ => 0) → RepM q.1 F X Ml → (∀ l, l ≤ 8 → X 42 l = nI (q.2 l)) → CF s k q → WP G m_Mod_comes B 27 [(5, .int (nI k)), (0, .ref o), (1, .int (nI x)), (2, .int (nI m)), (3, .int (nI set)), (4, .int (byI by1))] [] (hM o A F X Ml) 0 0 := by
  have hcnt : cntOf s m = r.2.1.length := by unfold cntOf; rw [List.getD_eq_getElem?_getD, hr]; rfl
  intro f
  induction f with
  | zero =>
    intro k q X h1
    omega
  | succ f ih =>
    intro k q X hf hk hq hX hsh hcf
    obtain ⟨⟨f1, f2, f3, f4, f5, f6, f7⟩, hci, hf8, hf9⟩ := id hcf
    have hrm := hX.ms (m - 1) r (by rw [f3]; exact hr)
    rw [show m - 1 + 1 = m by omega] at hrm
    have hln := hX.ln
    have hstp := @CF_step s x m by1 set k r.2.1 q hcf hm
    refine wp_iload d_Mod_comes_27 0 rfl ?_
    refine wp_aload_n d_Mod_comes_29 rfl 1 rfl ?_
    refine wm_get d_Mod_comes_30 19 (by decide) wF_Mod_57 rfl ?_
    refine wp_iload_n d_Mod_comes_33 rfl 3 rfl ?_
    refine wm_ild (j := 19) (x := (nI (r.2.1.length))) d_Mod_comes_34 hI (by decide) (by decide) (by show _ < 201; omega) (by decide) (hrm.2.2.2.1) ?_
    refine wp_geN (tgt := 206) d_Mod_comes_35 (by decide) (by omega) (by omega) (fun c35 => ?_) (fun c35 => ?_)
    · refine wp_lv [0, 1, 2, 3, 5] rfl ?_
      obtain rfl : k = r.2.1.length := by omega
      subst hq
      exact KK X hX hsh
    · refine wp_iload_n d_Mod_comes_38 rfl 4 rfl ?_
      refine wp_iload d_Mod_comes_39 0 rfl ?_
      refine wp_ishrN d_Mod_comes_41 (by omega) (by omega) ?_
      have hdv : set / 2 ^ k ≤ set := Nat.div_le_self _ _
      refine wp_iconst (v := nI 1) d_Mod_comes_42 (by decide) ?_
      refine wp_iandM (c := 1) d_Mod_comes_43 (by omega) (by decide) ?_
      refine wp_if_neN (tgt := 50) d_Mod_comes_44 (by decide) (by omega) (fun c44 => ?_) (fun c44 => ?_)
      · have hbit : set.testBit k = true := by rcases Bool.eq_false_or_eq_true (set.testBit k) with h | h; (exact h); (exact absurd ((tb_0 _ _).mpr h) (by omega))
        obtain ⟨a, hak0⟩ := get_of (l := r.2.1) (i := k) (by omega)
        have hak : ad8 a := hS.2.2.2 r (List.mem_of_getElem? hr) a (List.mem_of_getElem? hak0)
        have hak2 : r.2.1.getD k [] = a := by rw [List.getD_eq_getElem?_getD, hak0]; rfl
        have hofk := eIdx_of (sRt s x) a (sRt s x).length (Nat.le_refl _)
        rw [List.take_length] at hofk
        have hilt := eIdx_lt (sRt s x) a (sRt s x).length (Nat.le_refl _)
        have hrt16 := hS.2.1
        refine wp_aload_n d_Mod_comes_50 rfl 1 rfl ?_
        refine wp_iload_n d_Mod_comes_51 rfl 2 rfl ?_
        refine wp_aload_n d_Mod_comes_52 rfl 1 rfl ?_
        refine wm_get d_Mod_comes_53 20 (by decide) wF_Mod_60 rfl ?_
        refine wp_bipush (v := nI 7) d_Mod_comes_56 (by decide) ?_
        refine wp_iload_n d_Mod_comes_58 rfl 3 rfl ?_
        refine wp_imulN d_Mod_comes_59 ?_
        refine wp_iload d_Mod_comes_60 0 rfl ?_
        refine wp_iaddN d_Mod_comes_62 ?_
        refine wm_lld (j := 20) (x := (lN (beN a))) d_Mod_comes_63 hI (by decide) (by decide) (by show _ < 1407; omega) (by decide) (hrm.2.2.2.2 k a hak0) ?_
        refine wp_callV (r := 0) d_Mod_comes_64 (link_V (as := [.int (nI x), .long (lN (beN a))]) (rest := []) (r := (R_Mod, T_Mod, 43)) d_Mod_comes_64 cal_Mod_entry wM_Mod_205 rfl hM_o rfl) cal_Mod_entry (c_Mod_entry hI (R := sRt s) (by rw [← f2]; exact hX.rt) hx hS.2.1 (fun e he => ⟨⟨(hS.2.2.1 e he).1, (hS.2.2.1 e he).2.1⟩, (hS.2.2.1 e he).2.2.1⟩) hak) (Nat.le_of_ble_eq_true rfl) ⟨by have := hB.1; omega, Nat.le_trans (Nat.le_of_ble_eq_true rfl) hB.2⟩ ?_
        cases hei : eIdx (sRt s x) a (sRt s x).length with
        | none =>
          have heo : entryOf (sRt q.1 x) a = none := by rw [f2, hofk, hei]; rfl
          refine wp_toI (z := -1) rfl ?_
          refine wp_istore (lv' := [(6, .int (-1)), (5, .int (nI k)), (0, .ref o), (1, .int (nI x)), (2, .int (nI m)), (3, .int (nI set)), (4, .int (byI by1))]) d_Mod_comes_67 (by decide) rfl ?_
          refine wp_iload d_Mod_comes_69 0 rfl ?_
          refine wp_iconst (v := -1) d_Mod_comes_71 (by decide) ?_
          refine wp_icmp_ne (tgt := 88) d_Mod_comes_72 (by decide) (fun c => absurd c (by decide)) (fun _ => ?_)
          refine wp_aload_n d_Mod_comes_75 rfl 2 rfl ?_
          refine wm_get d_Mod_comes_76 33 (by decide) wF_Mod_96 rfl ?_
          refine wp_iload_n d_Mod_comes_79 rfl 3 rfl ?_
          refine wp_dup2 d_Mod_comes_80 rfl rfl ?_
          refine wm_ild (j := 33) (x := (nI (sUn q.1 x))) d_Mod_comes_81 hI (by decide) (by decide) (by show _ < 6; omega) (by decide) (hX.un x hx) ?_
          refine wp_iconst (v := nI 1) d_Mod_comes_82 (by decide) ?_
          refine wp_iaddN d_Mod_comes_83 ?_
          refine wm_ist (j := 33) d_Mod_comes_84 hI (by decide) (by decide) (by show _ < 6; omega) (by decide) ?_
          refine wp_goto (tgt := 200) d_Mod_comes_85 (by decide) ?_
          refine wp_iinc (lv' := [(5, .int (nI (k + 1))), (6, .int (-1)), (0, .ref o), (1, .int (nI x)), (2, .int (nI m)), (3, .int (nI set)), (4, .int (byI by1))]) d_Mod_comes_200 1 rfl (nI_1 _) (by decide) rfl ?_
          refine wp_goto (tgt := 27) d_Mod_comes_203 (by decide) ?_
          refine wp_lv [0, 2, 3, 4, 5, 6] rfl ?_
          refine ih (k + 1) (comeStep x m by1 r.2.1 set k q) _ (by omega) (by omega) (by rw [hq]; rfl) ?_ ?_ (hstp (by rw [hcnt]; omega))
          · rw [cs_unk hbit hak2 heo]
            exact ⟨hX.fi, hX.lg, hX.ln, hX.rt, hX.ms, hX.cm, hX.cp, hX.ch, RCn_up hX.un x _, hX.db, hX.dk⟩
          · rw [cs_unk hbit hak2 heo]
            exact hsh
        | some i =>
          have hil := hilt i hei
          obtain ⟨⟨p, mn, ot⟩, hpe⟩ := get_of (l := sRt s x) (i := i) hil
          have heo : entryOf (sRt q.1 x) a = some (p, mn, ot) := by rw [f2, hofk, hei]; exact hpe
          have hrk := (hX.rt x hx).2 i (p, mn, ot) (by rw [f2]; exact hpe)
          have hok := hS.2.2.1 _ (List.mem_of_getElem? hpe)
          refine wp_toI (z := nI (16 * x + i)) rfl ?_
          cases mn with
          | none =>
            refine wp_istore (lv' := [(6, .int (nI (16 * x + i))), (5, .int (nI k)), (0, .ref o), (1, .int (nI x)), (2, .int (nI m)), (3, .int (nI set)), (4, .int (byI by1))]) d_Mod_comes_67 (by decide) rfl ?_
            refine wp_iload d_Mod_comes_69 0 rfl ?_
            refine wp_iconst (v := -1) d_Mod_comes_71 (by decide) ?_
            refine wp_icmp_ne (tgt := 88) d_Mod_comes_72 (by decide) (fun _ => ?_) (fun c => absurd c (nI_m1 (by omega)))
            refine wp_aload_n d_Mod_comes_88 rfl 2 rfl ?_
            refine wm_get d_Mod_comes_89 13 (by decide) wF_Mod_42 rfl ?_
            refine wp_iload d_Mod_comes_92 0 rfl ?_
            refine wm_ild (j := 13) (x := (-1)) d_Mod_comes_94 hI (by decide) (by decide) (by show _ < 96; omega) (by decide) (hrk.2.2.1) ?_
            refine wp_iconst (v := -1) d_Mod_comes_95 (by decide) ?_
            refine wp_icmp_ne (tgt := 110) d_Mod_comes_96 (by decide) (fun c => absurd c (by decide)) (fun _ => ?_)
            refine wp_aload_n d_Mod_comes_99 rfl 2 rfl ?_
            refine wp_iload_n d_Mod_comes_100 rfl 3 rfl ?_
            refine wp_iload_n d_Mod_comes_101 rfl 4 rfl ?_
            refine wp_iload d_Mod_comes_102 1 rfl ?_
            refine wp_callEU (k' := 0) (n' := 0) (r := 0) d_Mod_comes_104 (link_V (as := [.int (nI x), .int (nI m), .int (nI k)]) (rest := []) (r := (R_Mod, T_Mod, 43)) d_Mod_comes_104 cal_Mod_deliver wM_Mod_209 rfl hM_o rfl) cal_Mod_deliver (c_Mod_deliver hI hX hci hx (by rw [f3]; exact hm) (by unfold cntOf; rw [f3]; rw [← hcnt] at c35; exact c35)) (Nat.le_of_ble_eq_true rfl) ⟨by have := hB.1; omega, Nat.le_trans (Nat.le_of_ble_eq_true rfl) hB.2⟩ (fun h' q104 => ?_)
            obtain ⟨X2, rfl, hX2⟩ := q104
            refine wp_goto (tgt := 200) d_Mod_comes_107 (by decide) ?_
            refine wp_iinc (lv' := [(5, .int (nI (k + 1))), (6, .int (nI (16 * x + i))), (0, .ref o), (1, .int (nI x)), (2, .int (nI m)), (3, .int (nI set)), (4, .int (byI by1))]) d_Mod_comes_200 1 rfl (nI_1 _) (by decide) rfl ?_
            refine wp_goto (tgt := 27) d_Mod_comes_203 (by decide) ?_
            refine wp_lv [0, 2, 3, 4, 5, 6] rfl ?_
            refine ih (k + 1) (comeStep x m by1 r.2.1 set k q) _ (by omega) (by omega) (by rw [hq]; rfl) ?_ ?_ (hstp (by rw [hcnt]; omega))
            · rw [cs_del hbit hak2 heo]
              exact hX2.1
            · rw [cs_del hbit hak2 heo]
              exact fun l hl => by rw [hX2.2]; exact hsh l hl
          | some j =>
            have hj8 := (hok.2.2.2.1 j rfl).1
            have hsj : X 9 j = bI (serves s j) := by rw [(hln j hj8).2.1, serves_eq f1]
            have hf8j := hf8 j
            have hf88 := hf8 8
            have h2k : 2 ^ k ≤ 2 ^ 6 := Nat.pow_le_pow_right (by decide) (by omega)
            cases ot with
            | none =>
              refine wp_istore (lv' := [(6, .int (nI (16 * x + i))), (5, .int (nI k)), (0, .ref o), (1, .int (nI x)), (2, .int (nI m)), (3, .int (nI set)), (4, .int (byI by1))]) d_Mod_comes_67 (by decide) rfl ?_
              refine wp_iload d_Mod_comes_69 0 rfl ?_
              refine wp_iconst (v := -1) d_Mod_comes_71 (by decide) ?_
              refine wp_icmp_ne (tgt := 88) d_Mod_comes_72 (by decide) (fun _ => ?_) (fun c => absurd c (nI_m1 (by omega)))
              refine wp_aload_n d_Mod_comes_88 rfl 2 rfl ?_
              refine wm_get d_Mod_comes_89 13 (by decide) wF_Mod_42 rfl ?_
              refine wp_iload d_Mod_comes_92 0 rfl ?_
              refine wm_ild (j := 13) (x := (nI j)) d_Mod_comes_94 hI (by decide) (by decide) (by show _ < 96; omega) (by decide) (hrk.2.2.1) ?_
              refine wp_iconst (v := -1) d_Mod_comes_95 (by decide) ?_
              refine wp_icmp_ne (tgt := 110) d_Mod_comes_96 (by decide) (fun _ => ?_) (fun c => absurd c (nI_m1 (by omega)))
              refine wp_aload_n d_Mod_comes_110 rfl 2 rfl ?_
              refine wp_aload_n d_Mod_comes_111 rfl 2 rfl ?_
              refine wm_get d_Mod_comes_112 13 (by decide) wF_Mod_42 rfl ?_
              refine wp_iload d_Mod_comes_115 0 rfl ?_
              refine wm_ild (j := 13) (x := (nI j)) d_Mod_comes_117 hI (by decide) (by decide) (by show _ < 96; omega) (by decide) (hrk.2.2.1) ?_
              refine wp_iload d_Mod_comes_118 6 rfl ?_
              refine wp_callV (r := 0) d_Mod_comes_120 (link_V (as := [.int (nI j), .int (byI by1)]) (rest := []) (r := (R_Mod, T_Mod, 43)) d_Mod_comes_120 cal_Mod_takes wM_Mod_213 rfl hM_o rfl) cal_Mod_takes (c_Mod_takes hI (by omega) (by omega) hsj) (Nat.le_of_ble_eq_true rfl) ⟨by have := hB.1; omega, Nat.le_trans (Nat.le_of_ble_eq_true rfl) hB.2⟩ ?_
              refine wp_if_eqB (tgt := 148) d_Mod_comes_123 (by decide) (fun c123 => ?_) (fun c123 => ?_)
              · refine wp_aload_n d_Mod_comes_148 rfl 2 rfl ?_
                refine wp_aload_n d_Mod_comes_149 rfl 2 rfl ?_
                refine wm_get d_Mod_comes_150 14 (by decide) wF_Mod_45 rfl ?_
                refine wp_iload d_Mod_comes_153 0 rfl ?_
                refine wm_ild (j := 14) (x := (-1)) d_Mod_comes_155 hI (by decide) (by decide) (by show _ < 96; omega) (by decide) (hrk.2.2.2) ?_
                refine wp_iload d_Mod_comes_156 6 rfl ?_
                refine wp_callV (r := 0) d_Mod_comes_158 (link_V (as := [.int (-1), .int (byI by1)]) (rest := []) (r := (R_Mod, T_Mod, 43)) d_Mod_comes_158 cal_Mod_takes wM_Mod_213 rfl hM_o rfl) cal_Mod_takes (c_Mod_takes0) (Nat.le_of_ble_eq_true rfl) ⟨by have := hB.1; omega, Nat.le_trans (Nat.le_of_ble_eq_true rfl) hB.2⟩ ?_
                refine wp_if_eqB (tgt := 186) d_Mod_comes_161 (by decide) (fun _ => ?_) (fun c => absurd c (by decide))
                refine wp_aload_n d_Mod_comes_186 rfl 2 rfl ?_
                refine wm_get d_Mod_comes_187 42 (by decide) wF_Mod_108 rfl ?_
                refine wp_bipush (v := nI 8) d_Mod_comes_190 (by decide) ?_
                refine wp_dup2 d_Mod_comes_192 rfl rfl ?_
                refine wm_ild (j := 42) (x := (nI (q.2 8))) d_Mod_comes_193 hI (by decide) (by decide) (by show _ < 9; omega) (by decide) (hsh 8 (by omega)) ?_
                refine wp_iconst (v := nI 1) d_Mod_comes_194 (by decide) ?_
                refine wp_iload d_Mod_comes_195 1 rfl ?_
                have h2k1 : 1 * 2 ^ k < 2 ^ 32 := by omega
                refine wp_ishlN d_Mod_comes_197 (by omega) (by omega) ?_
                refine wp_iorN d_Mod_comes_198 ?_
                refine wp_toI (z := nI (q.2 8 + 2 ^ k)) (by rw [Nat.one_mul, or_lt (hf8 8)]) ?_
                refine wm_ist (j := 42) d_Mod_comes_199 hI (by decide) (by decide) (by show _ < 9; omega) (by decide) ?_
                refine wp_iinc (lv' := [(5, .int (nI (k + 1))), (6, .int (nI (16 * x + i))), (0, .ref o), (1, .int (nI x)), (2, .int (nI m)), (3, .int (nI set)), (4, .int (byI by1))]) d_Mod_comes_200 1 rfl (nI_1 _) (by decide) rfl ?_
                refine wp_goto (tgt := 27) d_Mod_comes_203 (by decide) ?_
                refine wp_lv [0, 2, 3, 4, 5, 6] rfl ?_
                refine ih (k + 1) (comeStep x m by1 r.2.1 set k q) _ (by omega) (by omega) (by rw [hq]; rfl) ?_ ?_ (hstp (by rw [hcnt]; omega))
                · rw [cs_line hbit hak2 heo, if_neg (by rw [takesB_eq f1]; exact Bool.eq_false_iff.mp c123), if_neg (by rw [takesB_eq f1]; first | exact Bool.eq_false_iff.mp c161 | exact Bool.false_ne_true)]
                  exact hX
                · rw [cs_line hbit hak2 heo, if_neg (by rw [takesB_eq f1]; exact Bool.eq_false_iff.mp c123), if_neg (by rw [takesB_eq f1]; first | exact Bool.eq_false_iff.mp c161 | exact Bool.false_ne_true)]
                  exact sh_up hsh 8 _
              · refine wp_aload_n d_Mod_comes_126 rfl 2 rfl ?_
                refine wm_get d_Mod_comes_127 42 (by decide) wF_Mod_108 rfl ?_
                refine wp_aload_n d_Mod_comes_130 rfl 2 rfl ?_
                refine wm_get d_Mod_comes_131 13 (by decide) wF_Mod_42 rfl ?_
                refine wp_iload d_Mod_comes_134 0 rfl ?_
                refine wm_ild (j := 13) (x := (nI j)) d_Mod_comes_136 hI (by decide) (by decide) (by show _ < 96; omega) (by decide) (hrk.2.2.1) ?_
                refine wp_dup2 d_Mod_comes_137 rfl rfl ?_
                refine wm_ild (j := 42) (x := (nI (q.2 j))) d_Mod_comes_138 hI (by decide) (by decide) (by show _ < 9; omega) (by decide) (hsh j (by omega)) ?_
                refine wp_iconst (v := nI 1) d_Mod_comes_139 (by decide) ?_
                refine wp_iload d_Mod_comes_140 1 rfl ?_
                have h2k1 : 1 * 2 ^ k < 2 ^ 32 := by omega
                refine wp_ishlN d_Mod_comes_142 (by omega) (by omega) ?_
                refine wp_iorN d_Mod_comes_143 ?_
                refine wp_toI (z := nI (q.2 j + 2 ^ k)) (by rw [Nat.one_mul, or_lt (hf8 j)]) ?_
                refine wm_ist (j := 42) d_Mod_comes_144 hI (by decide) (by decide) (by show _ < 9; omega) (by decide) ?_
                refine wp_goto (tgt := 200) d_Mod_comes_145 (by decide) ?_
                refine wp_iinc (lv' := [(5, .int (nI (k + 1))), (6, .int (nI (16 * x + i))), (0, .ref o), (1, .int (nI x)), (2, .int (nI m)), (3, .int (nI set)), (4, .int (byI by1))]) d_Mod_comes_200 1 rfl (nI_1 _) (by decide) rfl ?_
                refine wp_goto (tgt := 27) d_Mod_comes_203 (by decide) ?_
                refine wp_lv [0, 2, 3, 4, 5, 6] rfl ?_
                refine ih (k + 1) (comeStep x m by1 r.2.1 set k q) _ (by omega) (by omega) (by rw [hq]; rfl) ?_ ?_ (hstp (by rw [hcnt]; omega))
                · rw [cs_line hbit hak2 heo, if_pos (by rw [takesB_eq f1]; exact c123)]
                  exact hX
                · rw [cs_line hbit hak2 heo, if_pos (by rw [takesB_eq f1]; exact c123)]
                  exact sh_up hsh j _
            | some j2 =>
              have hj9 := (hok.2.2.2.2 j2 rfl).1
              have hsj2 : X 9 j2 = bI (serves s j2) := by rw [(hln j2 hj9).2.1, serves_eq f1]
              have hf8j2 := hf8 j2
              refine wp_istore (lv' := [(6, .int (nI (16 * x + i))), (5, .int (nI k)), (0, .ref o), (1, .int (nI x)), (2, .int (nI m)), (3, .int (nI set)), (4, .int (byI by1))]) d_Mod_comes_67 (by decide) rfl ?_
              refine wp_iload d_Mod_comes_69 0 rfl ?_
              refine wp_iconst (v := -1) d_Mod_comes_71 (by decide) ?_
              refine wp_icmp_ne (tgt := 88) d_Mod_comes_72 (by decide) (fun _ => ?_) (fun c => absurd c (nI_m1 (by omega)))
              refine wp_aload_n d_Mod_comes_88 rfl 2 rfl ?_
              refine wm_get d_Mod_comes_89 13 (by decide) wF_Mod_42 rfl ?_
              refine wp_iload d_Mod_comes_92 0 rfl ?_
              refine wm_ild (j := 13) (x := (nI j)) d_Mod_comes_94 hI (by decide) (by decide) (by show _ < 96; omega) (by decide) (hrk.2.2.1) ?_
              refine wp_iconst (v := -1) d_Mod_comes_95 (by decide) ?_
              refine wp_icmp_ne (tgt := 110) d_Mod_comes_96 (by decide) (fun _ => ?_) (fun c => absurd c (nI_m1 (by omega)))
              refine wp_aload_n d_Mod_comes_110 rfl 2 rfl ?_
              refine wp_aload_n d_Mod_comes_111 rfl 2 rfl ?_
              refine wm_get d_Mod_comes_112 13 (by decide) wF_Mod_42 rfl ?_
              refine wp_iload d_Mod_comes_115 0 rfl ?_
              refine wm_ild (j := 13) (x := (nI j)) d_Mod_comes_117 hI (by decide) (by decide) (by show _ < 96; omega) (by decide) (hrk.2.2.1) ?_
              refine wp_iload d_Mod_comes_118 6 rfl ?_
              refine wp_callV (r := 0) d_Mod_comes_120 (link_V (as := [.int (nI j), .int (byI by1)]) (rest := []) (r := (R_Mod, T_Mod, 43)) d_Mod_comes_120 cal_Mod_takes wM_Mod_213 rfl hM_o rfl) cal_Mod_takes (c_Mod_takes hI (by omega) (by omega) hsj) (Nat.le_of_ble_eq_true rfl) ⟨by have := hB.1; omega, Nat.le_trans (Nat.le_of_ble_eq_true rfl) hB.2⟩ ?_
              refine wp_if_eqB (tgt := 148) d_Mod_comes_123 (by decide) (fun c123 => ?_) (fun c123 => ?_)
              · refine wp_aload_n d_Mod_comes_148 rfl 2 rfl ?_
                refine wp_aload_n d_Mod_comes_149 rfl 2 rfl ?_
                refine wm_get d_Mod_comes_150 14 (by decide) wF_Mod_45 rfl ?_
                refine wp_iload d_Mod_comes_153 0 rfl ?_
                refine wm_ild (j := 14) (x := (nI j2)) d_Mod_comes_155 hI (by decide) (by decide) (by show _ < 96; omega) (by decide) (hrk.2.2.2) ?_
                refine wp_iload d_Mod_comes_156 6 rfl ?_
                refine wp_callV (r := 0) d_Mod_comes_158 (link_V (as := [.int (nI j2), .int (byI by1)]) (rest := []) (r := (R_Mod, T_Mod, 43)) d_Mod_comes_158 cal_Mod_takes wM_Mod_213 rfl hM_o rfl) cal_Mod_takes (c_Mod_takes hI (by omega) (by omega) hsj2) (Nat.le_of_ble_eq_true rfl) ⟨by have := hB.1; omega, Nat.le_trans (Nat.le_of_ble_eq_true rfl) hB.2⟩ ?_
                refine wp_if_eqB (tgt := 186) d_Mod_comes_161 (by decide) (fun c161 => ?_) (fun c161 => ?_)
                · refine wp_aload_n d_Mod_comes_186 rfl 2 rfl ?_
                  refine wm_get d_Mod_comes_187 42 (by decide) wF_Mod_108 rfl ?_
                  refine wp_bipush (v := nI 8) d_Mod_comes_190 (by decide) ?_
                  refine wp_dup2 d_Mod_comes_192 rfl rfl ?_
                  refine wm_ild (j := 42) (x := (nI (q.2 8))) d_Mod_comes_193 hI (by decide) (by decide) (by show _ < 9; omega) (by decide) (hsh 8 (by omega)) ?_
                  refine wp_iconst (v := nI 1) d_Mod_comes_194 (by decide) ?_
                  refine wp_iload d_Mod_comes_195 1 rfl ?_
                  have h2k1 : 1 * 2 ^ k < 2 ^ 32 := by omega
                  refine wp_ishlN d_Mod_comes_197 (by omega) (by omega) ?_
                  refine wp_iorN d_Mod_comes_198 ?_
                  refine wp_toI (z := nI (q.2 8 + 2 ^ k)) (by rw [Nat.one_mul, or_lt (hf8 8)]) ?_
                  refine wm_ist (j := 42) d_Mod_comes_199 hI (by decide) (by decide) (by show _ < 9; omega) (by decide) ?_
                  refine wp_iinc (lv' := [(5, .int (nI (k + 1))), (6, .int (nI (16 * x + i))), (0, .ref o), (1, .int (nI x)), (2, .int (nI m)), (3, .int (nI set)), (4, .int (byI by1))]) d_Mod_comes_200 1 rfl (nI_1 _) (by decide) rfl ?_
                  refine wp_goto (tgt := 27) d_Mod_comes_203 (by decide) ?_
                  refine wp_lv [0, 2, 3, 4, 5, 6] rfl ?_
                  refine ih (k + 1) (comeStep x m by1 r.2.1 set k q) _ (by omega) (by omega) (by rw [hq]; rfl) ?_ ?_ (hstp (by rw [hcnt]; omega))
                  · rw [cs_line hbit hak2 heo, if_neg (by rw [takesB_eq f1]; exact Bool.eq_false_iff.mp c123), if_neg (by rw [takesB_eq f1]; first | exact Bool.eq_false_iff.mp c161 | exact Bool.false_ne_true)]
                    exact hX
                  · rw [cs_line hbit hak2 heo, if_neg (by rw [takesB_eq f1]; exact Bool.eq_false_iff.mp c123), if_neg (by rw [takesB_eq f1]; first | exact Bool.eq_false_iff.mp c161 | exact Bool.false_ne_true)]
                    exact sh_up hsh 8 _
                · refine wp_aload_n d_Mod_comes_164 rfl 2 rfl ?_
                  refine wm_get d_Mod_comes_165 42 (by decide) wF_Mod_108 rfl ?_
                  refine wp_aload_n d_Mod_comes_168 rfl 2 rfl ?_
                  refine wm_get d_Mod_comes_169 14 (by decide) wF_Mod_45 rfl ?_
                  refine wp_iload d_Mod_comes_172 0 rfl ?_
                  refine wm_ild (j := 14) (x := (nI j2)) d_Mod_comes_174 hI (by decide) (by decide) (by show _ < 96; omega) (by decide) (hrk.2.2.2) ?_
                  refine wp_dup2 d_Mod_comes_175 rfl rfl ?_
                  refine wm_ild (j := 42) (x := (nI (q.2 j2))) d_Mod_comes_176 hI (by decide) (by decide) (by show _ < 9; omega) (by decide) (hsh j2 (by omega)) ?_
                  refine wp_iconst (v := nI 1) d_Mod_comes_177 (by decide) ?_
                  refine wp_iload d_Mod_comes_178 1 rfl ?_
                  have h2k1 : 1 * 2 ^ k < 2 ^ 32 := by omega
                  refine wp_ishlN d_Mod_comes_180 (by omega) (by omega) ?_
                  refine wp_iorN d_Mod_comes_181 ?_
                  refine wp_toI (z := nI (q.2 j2 + 2 ^ k)) (by rw [Nat.one_mul, or_lt (hf8 j2)]) ?_
                  refine wm_ist (j := 42) d_Mod_comes_182 hI (by decide) (by decide) (by show _ < 9; omega) (by decide) ?_
                  refine wp_goto (tgt := 200) d_Mod_comes_183 (by decide) ?_
                  refine wp_iinc (lv' := [(5, .int (nI (k + 1))), (6, .int (nI (16 * x + i))), (0, .ref o), (1, .int (nI x)), (2, .int (nI m)), (3, .int (nI set)), (4, .int (byI by1))]) d_Mod_comes_200 1 rfl (nI_1 _) (by decide) rfl ?_
                  refine wp_goto (tgt := 27) d_Mod_comes_203 (by decide) ?_
                  refine wp_lv [0, 2, 3, 4, 5, 6] rfl ?_
                  refine ih (k + 1) (comeStep x m by1 r.2.1 set k q) _ (by omega) (by omega) (by rw [hq]; rfl) ?_ ?_ (hstp (by rw [hcnt]; omega))
                  · rw [cs_line hbit hak2 heo, if_neg (by rw [takesB_eq f1]; exact Bool.eq_false_iff.mp c123), if_pos (by rw [takesB_eq f1]; exact c161)]
                    exact hX
                  · rw [cs_line hbit hak2 heo, if_neg (by rw [takesB_eq f1]; exact Bool.eq_false_iff.mp c123), if_pos (by rw [takesB_eq f1]; exact c161)]
                    exact sh_up hsh j2 _
              · refine wp_aload_n d_Mod_comes_126 rfl 2 rfl ?_
                refine wm_get d_Mod_comes_127 42 (by decide) wF_Mod_108 rfl ?_
                refine wp_aload_n d_Mod_comes_130 rfl 2 rfl ?_
                refine wm_get d_Mod_comes_131 13 (by decide) wF_Mod_42 rfl ?_
                refine wp_iload d_Mod_comes_134 0 rfl ?_
                refine wm_ild (j := 13) (x := (nI j)) d_Mod_comes_136 hI (by decide) (by decide) (by show _ < 96; omega) (by decide) (hrk.2.2.1) ?_
                refine wp_dup2 d_Mod_comes_137 rfl rfl ?_
                refine wm_ild (j := 42) (x := (nI (q.2 j))) d_Mod_comes_138 hI (by decide) (by decide) (by show _ < 9; omega) (by decide) (hsh j (by omega)) ?_
                refine wp_iconst (v := nI 1) d_Mod_comes_139 (by decide) ?_
                refine wp_iload d_Mod_comes_140 1 rfl ?_
                have h2k1 : 1 * 2 ^ k < 2 ^ 32 := by omega
                refine wp_ishlN d_Mod_comes_142 (by omega) (by omega) ?_
                refine wp_iorN d_Mod_comes_143 ?_
                refine wp_toI (z := nI (q.2 j + 2 ^ k)) (by rw [Nat.one_mul, or_lt (hf8 j)]) ?_
                refine wm_ist (j := 42) d_Mod_comes_144 hI (by decide) (by decide) (by show _ < 9; omega) (by decide) ?_
                refine wp_goto (tgt := 200) d_Mod_comes_145 (by decide) ?_
                refine wp_iinc (lv' := [(5, .int (nI (k + 1))), (6, .int (nI (16 * x + i))), (0, .ref o), (1, .int (nI x)), (2, .int (nI m)), (3, .int (nI set)), (4, .int (byI by1))]) d_Mod_comes_200 1 rfl (nI_1 _) (by decide) rfl ?_
                refine wp_goto (tgt := 27) d_Mod_comes_203 (by decide) ?_
                refine wp_lv [0, 2, 3, 4, 5, 6] rfl ?_
                refine ih (k + 1) (comeStep x m by1 r.2.1 set k q) _ (by omega) (by omega) (by rw [hq]; rfl) ?_ ?_ (hstp (by rw [hcnt]; omega))
                · rw [cs_line hbit hak2 heo, if_pos (by rw [takesB_eq f1]; exact c123)]
                  exact hX
                · rw [cs_line hbit hak2 heo, if_pos (by rw [takesB_eq f1]; exact c123)]
                  exact sh_up hsh j _
      · refine wp_goto (tgt := 200) d_Mod_comes_47 (by decide) ?_
        refine wp_iinc (lv' := [(5, .int (nI (k + 1))), (0, .ref o), (1, .int (nI x)), (2, .int (nI m)), (3, .int (nI set)), (4, .int (byI by1))]) d_Mod_comes_200 0 rfl (nI_1 _) (by decide) rfl ?_
        refine wp_goto (tgt := 27) d_Mod_comes_203 (by decide) ?_
        refine wp_lv [0, 1, 2, 3, 4, 5] rfl ?_
        refine ih (k + 1) (comeStep x m by1 r.2.1 set k q) _ (by omega) (by omega) (by rw [hq]; rfl) ?_ ?_ (hstp (by rw [hcnt]; omega))
        · rw [cs_skip ((tb_0 _ _).mp c44)]
          exact hX
        · rw [cs_skip ((tb_0 _ _).mp c44)]
          exact hsh
end Mod23
