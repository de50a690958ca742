section Cls23
theorem entry_mem {rt : List RtE} {ad : List Nat} {e : RtE} (he : entryOf rt ad = some e) : e ∈ rt := by
  have hof := eIdx_of rt ad rt.length (Nat.le_refl _)
  rw [List.take_length, he] at hof
  cases hi : eIdx rt ad rt.length with
  | none => rw [hi] at hof; cases hof
  | some i => rw [hi] at hof; exact List.mem_of_getElem? hof.symm
theorem cnt_step {s : Sa} {x m by1 set k : Nat} {as : List (List Nat)} {q : Sa × (Nat → Nat)} (h : CF s k q) (hk : k < 7) (hrt : ∀ e ∈ sRt s x, okRt s x e) : sumN 9 (fun l => pc7 ((comeStep x m by1 as set k q).2 l)) ≤ sumN 9 (fun l => pc7 (q.2 l)) + bitN set k := by
  have up : ∀ j, j < 9 → sumN 9 (fun l => pc7 (va_up q.2 j (q.2 j + 2 ^ k) l)) = sumN 9 (fun l => pc7 (q.2 l)) + 1 := by
    intro j hj
    have h1 : sumN 9 (fun l => pc7 (va_up q.2 j (q.2 j + 2 ^ k) l)) = sumN 9 (va_up (fun l => pc7 (q.2 l)) j (pc7 (q.2 j + 2 ^ k))) := by
      refine sumN_congr (fun i _ => ?_)
      by_cases hi : i = j
      · subst hi
        simp [va_up]
      · simp [va_up, hi]
    have h2 := sumN_up (n := 9) (v := pc7 (q.2 j + 2 ^ k)) (f := fun l => pc7 (q.2 l)) hj
    rw [pc7_add hk (Nat.testBit_lt_two_pow (h.2.2.1 j))] at h2 h1
    rw [h1]
    omega
  cases hb : set.testBit k with
  | false => rw [cs_skip hb]; omega
  | true =>
    have hbit : bitN set k = 1 := by unfold bitN; rw [if_pos hb]
    cases he : entryOf (sRt q.1 x) (as.getD k []) with
    | none => rw [cs_unk hb rfl he]; show sumN 9 (fun l => pc7 (q.2 l)) ≤ _; omega
    | some e =>
      obtain ⟨p, mn, ot⟩ := e
      have hmem : (p, mn, ot) ∈ sRt s x := by
        rw [h.1.2.1] at he
        exact entry_mem he
      have hok := hrt _ hmem
      cases mn with
      | none => rw [cs_del hb rfl he]; show sumN 9 (fun l => pc7 (q.2 l)) ≤ _; omega
      | some j =>
        rw [cs_line hb rfl he]
        split
        · rw [up j (by have := (hok.2.2.2.1 j rfl).1; omega)]; omega
        · split
          · cases ot with
            | none => rename_i h9; cases h9
            | some o => rw [show (some o).getD 0 = o from rfl, up o (by have := (hok.2.2.2.2 o rfl).1; omega)]; omega
          · rw [up 8 (by omega)]; omega
theorem cnt_loop {s : Sa} {x m by1 set : Nat} {as : List (List Nat)} (hC : CI s) (hm : 1 ≤ m ∧ m ≤ (sMs s).length) (hrt : ∀ e ∈ sRt s x, okRt s x e) : ∀ k, k ≤ cntOf s m → sumN 9 (fun l => pc7 ((comeLoop x m by1 as set k (s, fun _ => 0)).2 l)) ≤ sumN k (bitN set)
  | 0, _ => by
    show sumN 9 (fun _ => pc7 0) ≤ 0
    rw [pc7_0]
    decide
  | k + 1, hk => by
    have h7 := cnt_7 hC.2.2.1 m
    have h1 := cnt_loop (x := x) (m := m) (by1 := by1) (set := set) (as := as) hC hm hrt k (by omega)
    have h2 := cnt_step (x := x) (m := m) (by1 := by1) (set := set) (as := as) (CF_loop (x := x) (by1 := by1) (set := set) (as := as) hC hm k (by omega)) (by omega) hrt
    rw [sumN_s k (bitN set)]
    exact Nat.le_trans h2 (Nat.add_le_add_right h1 _)
theorem rc_le {sh : Nat → Nat} (h : ∀ l, sh l < 2 ^ 7) : rcN sh 8 0 + (if sh 8 = 0 then 0 else 1) ≤ sumN 9 (fun l => pc7 (sh l)) := by
  have e : ∀ l, (if sh l = 0 then 0 else 1) ≤ pc7 (sh l) := fun l => by
    split
    · omega
    · exact pc7_pos (h l) (by omega)
  have e0 := e 0
  have e1 := e 1
  have e2 := e 2
  have e3 := e 3
  have e4 := e 4
  have e5 := e 5
  have e6 := e 6
  have e7 := e 7
  have e8 := e 8
  simp only [rcN, sumN, List.range, List.range.loop, List.map_cons, List.map_nil, List.sum_cons, List.sum_nil, Nat.zero_add, Nat.reduceAdd]
  omega
theorem eIdx_some {rt : List RtE} {ad : List Nat} : ∀ {k i : Nat}, eIdx rt ad k = some i → rt[i]? ≠ none
  | 0, i, h => by cases h
  | k + 1, i, h => by
    rw [eIdx_s, eStep] at h
    cases hk : rt[k]? with
    | none => rw [hk] at h; exact eIdx_some h
    | some e =>
      rw [hk] at h
      dsimp only at h
      split at h
      · split at h
        · cases h; rw [hk]; simp
        · split at h
          · cases h; rw [hk]; simp
          · split at h
            · cases h; rw [hk]; simp
            · exact eIdx_some h
      · exact eIdx_some h
set_option maxRecDepth 20000 in
theorem c_Net_comeTo {G : Gt} {K N : Nat → Nat} {I : Nat → Nat → Int32} {R : Nat → Nat → Option Nat} {L : Nat → Nat → Int64} {E : Nat → Nat → Int32} {El : Nat → Nat → Int64} {Er : Nat → Nat → Option Nat} {Γ : Gm} {ρ : Nat → Nat} {s : Sa} (hR : RepN Γ ρ K N I R L E El Er s) {j : Nat} {m : Nat × List (List Nat) × Nat × Nat} (hm : (sMs s)[j]? = some m) {x set by1 : Nat} (hC : CI s) (hS : CS s x) (hx : x < 6) (hset : set < 2 ^ 7) (hby : by1 ≤ 8) (hp0 : prioOf s (j + 1) < 5) : CallE G m_Net_comeTo 3 47 [.ref (Γ 0 0), .int (nI x), .ref (Γ 14 (j + 1)), .int (nI set), .int (cbI by1)] (hN K N I R L E El Er) (pc7 set) (4 * pc7 set) none (NetK Γ (comesS s x (j + 1) set by1) K I R) := by
  refine CallS.of (Nat.le_of_ble_eq_true rfl) ?_
  have hjl := (List.getElem?_eq_some_iff.mp hm).1
  have hmr : 1 ≤ j + 1 ∧ j + 1 ≤ (sMs s).length := ⟨by omega, by omega⟩
  have hcnt : cntOf s (j + 1) = m.2.1.length := by unfold cntOf; rw [show j + 1 - 1 = j by omega, List.getD_eq_getElem?_getD, hm]; rfl
  have h7 : m.2.1.length ≤ 7 := (hC.2.2.1 m (List.mem_of_getElem? hm)).2
  have L2 : ∀ (f k : Nat) (s' : Sa) (sh : Nat → Nat) (I' E' : Nat → Nat → Int32) (Er' : Nat → Nat → Option Nat), f = m.2.1.length - k → k ≤ m.2.1.length → RepN Γ ρ K N I' R L E' El Er' s' → Kp K I R K I' R → (s', sh) = comeLoop x (j + 1) by1 m.2.1 set k (s, fun _ => 0) → (∀ l, l < 8 → E' (Γ 0 7) l = nI (sh l)) → WP G m_Net_comeTo (3, 47, (pc7 set), (4 * pc7 set), (hN K N I R L E El Er), fun r9 h9 => r9 = .inl none ∧ (NetK Γ (comesS s x (j + 1) set by1) K I R) h9) 21 [(7, .int (nI k)), (6, .int (nI (sh 8))), (5, .ref (Γ 1 x)), (0, .ref (Γ 0 0)), (1, .int (nI x)), (2, .ref (Γ 14 (j + 1))), (3, .int (nI set)), (4, .int (cbI by1))] [] (hN K N I' R L E' El Er') (pc7 set) (4 * pc7 set) := by
    intro f
    induction f with
    | zero =>
      intro k s' sh I' E' Er' hf hk hR' hkp hq hE
      have hCF : CF s k (s', sh) := by rw [hq]; exact CF_loop hC hmr k (by omega)
      have hsl : sLn s' = sLn s := hCF.1.1
      have hrt : sRt s' = sRt s := hCF.1.2.1
      have hsm : sMs s' = sMs s := hCF.1.2.2.1
      have hm' : (sMs s')[j]? = some m := by rw [hsm]; exact hm
      have h2k : 2 ^ k ≤ 2 ^ 7 := Nat.pow_le_pow_right (by decide) (by omega)
      have hp5 : prioOf s' (j + 1) < 5 := by unfold prioOf; rw [hsm]; exact hp0
      have hshk := fun l => hCF.2.2.1 l
      have hk8 := hCF.2.2.1 8
      refine wp_iload d_Net_comeTo_21 0 rfl ?_
      refine wp_aload_n d_Net_comeTo_23 rfl 5 rfl ?_
      refine wn_get_Msg d_Net_comeTo_24 ((hR.mg j _ hm).2.1) 1 (by decide) wF_Net_223 rfl ?_
      refine wp_toVR (o := some (Γ 16 (j + 1))) (z := .ref (Γ 16 (j + 1))) ((hR.mg j _ hm).2.2.2.2.1) rfl ?_
      refine wn_len (len := m.2.1.length) d_Net_comeTo_27 ((hR.mg j _ hm).2.2.2.2.2.2.2.2.2.2.2.1) rfl ((hR'.mg j m hm').2.2.2.2.2.2.2.2.2.2.2.2.1) ?_
      refine wp_geN (tgt := 169) d_Net_comeTo_28 (by decide) (by omega) (by omega) (fun c28 => ?_) (fun c28 => ?_)
      · obtain rfl : k = m.2.1.length := by omega
        have hsh : ∀ l, sh l < 2 ^ 7 := fun l => Nat.lt_of_lt_of_le (hCF.2.2.1 l) (Nat.pow_le_pow_right (by decide) h7)
        have hbud : rcN sh 8 0 + (if sh 8 = 0 then 0 else 1) ≤ pc7 set := by
          refine Nat.le_trans (rc_le hsh) ?_
          have h9 := cnt_loop (x := x) (m := j + 1) (by1 := by1) (set := set) (as := m.2.1) hC hmr hS.2.2.1 m.2.1.length (by rw [hcnt]; omega)
          rw [← hq] at h9
          rw [pc7_sum]
          exact Nat.le_trans h9 (sumN_le h7)
        refine wp_bud (k' := (if sh 8 = 0 then 0 else 1) + rcN sh 8 0) (n' := 4 * (if sh 8 = 0 then 0 else 1) + 4 * rcN sh 8 0) (by omega) (by omega) ?_
        refine wp_aload_n d_Net_comeTo_169 rfl 3 rfl ?_
        refine wp_iload_n d_Net_comeTo_170 rfl 4 rfl ?_
        refine wp_aload_n d_Net_comeTo_171 rfl 5 rfl ?_
        refine wp_callEU (k' := (rcN sh 8 0)) (n' := (4 * rcN sh 8 0)) (r := 0) d_Net_comeTo_172 (link_V (as := [.int (nI x), .ref (Γ 14 (j + 1))]) (rest := []) (r := (R_Net, T_Net, 7)) d_Net_comeTo_172 cal_Net_queueParts wM_Net_329 rfl (hN_o (hR.nt.1) (by decide)) rfl) cal_Net_queueParts (c_Net_queueParts hR' hm' hx (fun l a b v hv => by rw [hsl] at hv; exact hS.1 l a b v hv) hsh (fun l hl h0 => by rw [serves_eq hsl]; exact hCF.2.2.2 l hl h0) hE hp5) (Nat.le_of_ble_eq_true rfl) ⟨Nat.le_of_ble_eq_true rfl, Nat.le_of_ble_eq_true rfl⟩ (fun h' q172 => ?_)
        obtain ⟨ρ2, K2, I2, R2, rfl, kp2, hR2⟩ := q172
        by_cases h8 : sh 8 = 0
        · rw [h8]
          refine wp_iload d_Net_comeTo_175 1 rfl ?_
          refine wp_if_eqN (tgt := 200) d_Net_comeTo_177 (by decide) (by omega) (fun _ => ?_) (fun c => absurd c (by decide))
          first | exact absurd c177 h8 | exact wp_vret d_Net_comeTo_200 rfl ⟨rfl, ρ2, K2, N, I2, R2, L, E', El, Er', rfl, by unfold comesS; rw [show ((sMs s).getD (j + 1 - 1) (0, [], 0, 0)).2.1 = m.2.1 by rw [show j + 1 - 1 = j by omega, List.getD_eq_getElem?_getD, hm]; rfl]; dsimp only; rw [← hq]; dsimp only; rw [if_pos h8, List.append_nil]; exact hR2, hkp.tr kp2⟩
        · rw [if_neg h8]
          have hs8 := hsh 8
          refine wp_iload d_Net_comeTo_175 1 rfl ?_
          refine wp_if_eqN (tgt := 200) d_Net_comeTo_177 (by decide) (by omega) (fun c177 => ?_) (fun c177 => ?_)
          · first | exact absurd c177 h8 | exact wp_vret d_Net_comeTo_200 rfl ⟨rfl, ρ2, K2, N, I2, R2, L, E', El, Er', rfl, by unfold comesS; rw [show ((sMs s).getD (j + 1 - 1) (0, [], 0, 0)).2.1 = m.2.1 by rw [show j + 1 - 1 = j by omega, List.getD_eq_getElem?_getD, hm]; rfl]; dsimp only; rw [← hq]; dsimp only; rw [if_pos h8, List.append_nil]; exact hR2, hkp.tr kp2⟩
          · refine wp_aload d_Net_comeTo_180 2 rfl ?_
            refine wn_get_Swt d_Net_comeTo_182 ((hR2.sw x hx).2.1) 2 (by decide) wF_Net_262 rfl ?_
            refine wp_toVR (o := some (Γ 4 x)) (z := .ref (Γ 4 x)) ((hR2.sw x hx).2.2.2.2.2.1) rfl ?_
            refine wn_new_Cpy d_Net_comeTo_185 wC_Net_293 (hR2.df) (fun q1 hq1 => ?_)
            refine wp_dup d_Net_comeTo_188 rfl ?_
            refine wp_aload_n d_Net_comeTo_189 rfl 5 rfl ?_
            refine wp_iload d_Net_comeTo_190 1 rfl ?_
            refine wp_iload d_Net_comeTo_192 7 rfl ?_
            refine wp_callU (r := 2) d_Net_comeTo_194 (link_I (as := [.ref (Γ 14 (j + 1)), .int (nI (sh 8)), .int (cbI by1)]) (rest := [.ref q1, .ref (Γ 4 x)]) d_Net_comeTo_194 cal_Cpy_init rfl wM_Net_333 rfl) cal_Cpy_init (c_Cpy_init (kat _ _ _)) (Nat.le_of_ble_eq_true rfl) ⟨Nat.le_of_ble_eq_true rfl, Nat.le_of_ble_eq_true rfl⟩ ?_
            have hRn := hR2.newC hq1 (800000 + x) (nI (sh 8)) (cbI by1) (some (Γ 14 (j + 1)))
            have hXn := ((hR2.hl x hx).2).newC hq1 (800000 + x) (nI (sh 8)) (cbI by1) (some (Γ 14 (j + 1)))
            have r17 : u2r R2 14 q1 (some (Γ 14 (j + 1))) 17 q1 = none := by rw [u2r_ne _ _ (by decide)]; exact (hR2.df q1 hq1).2.1 17
            obtain ⟨xs, hxs, hadd⟩ := hXn.add (G := G) (N := N) (L := L) (E := E') (El := El) (Er := Er') (c := (16 + x, j + 1, sh 8, by1)) (kat _ _ _) r17 (by simp [va_up]) ⟨by rw [u2r_at, if_pos rfl], by rw [u2_ne _ _ (by decide), u2_at, if_pos rfl], by rw [u2_at, if_pos rfl]⟩
            refine wp_callEU (k' := 0) (n' := 0) (r := 0) d_Net_comeTo_197 (link_V (as := [.ref q1]) (rest := []) (r := (R_Lst, T_Lst, 3)) d_Net_comeTo_197 cal_Lst_add wM_Net_335 rfl (hN_o (kup hq1 ((hR2.hl x hx).2.kl)) (by decide)) rfl) cal_Lst_add (hadd) (Nat.le_of_ble_eq_true rfl) ⟨Nat.le_of_ble_eq_true rfl, Nat.le_of_ble_eq_true rfl⟩ (fun h' q197 => ?_)
            obtain ⟨I3, R3, rfl, l1, l2, l3⟩ := q197
            exact wp_vret d_Net_comeTo_200 rfl ⟨rfl, _, _, N, I3, R3, L, E', El, Er', rfl, by unfold comesS; rw [show ((sMs s).getD (j + 1 - 1) (0, [], 0, 0)).2.1 = m.2.1 by rw [show j + 1 - 1 = j by omega, List.getD_eq_getElem?_getD, hm]; rfl]; dsimp only; rw [← hq]; dsimp only; rw [if_neg h8]; exact hRn.addH hx hxs l1 l2 l3, ((hkp.tr kp2).tr (Kp_newC (N := N) (L := L) (E := E') (El := El) (Er := Er') hq1 _ _ _)).tr (Kp_l l1 l2)⟩
      · exfalso; omega
    | succ f ih =>
      intro k s' sh I' E' Er' hf hk hR' hkp hq hE
      have hCF : CF s k (s', sh) := by rw [hq]; exact CF_loop hC hmr k (by omega)
      have hsl : sLn s' = sLn s := hCF.1.1
      have hrt : sRt s' = sRt s := hCF.1.2.1
      have hsm : sMs s' = sMs s := hCF.1.2.2.1
      have hm' : (sMs s')[j]? = some m := by rw [hsm]; exact hm
      have h2k : 2 ^ k ≤ 2 ^ 7 := Nat.pow_le_pow_right (by decide) (by omega)
      have hp5 : prioOf s' (j + 1) < 5 := by unfold prioOf; rw [hsm]; exact hp0
      have hshk := fun l => hCF.2.2.1 l
      have hk8 := hCF.2.2.1 8
      refine wp_iload d_Net_comeTo_21 0 rfl ?_
      refine wp_aload_n d_Net_comeTo_23 rfl 5 rfl ?_
      refine wn_get_Msg d_Net_comeTo_24 ((hR.mg j _ hm).2.1) 1 (by decide) wF_Net_223 rfl ?_
      refine wp_toVR (o := some (Γ 16 (j + 1))) (z := .ref (Γ 16 (j + 1))) ((hR.mg j _ hm).2.2.2.2.1) rfl ?_
      refine wn_len (len := m.2.1.length) d_Net_comeTo_27 ((hR.mg j _ hm).2.2.2.2.2.2.2.2.2.2.2.1) rfl ((hR'.mg j m hm').2.2.2.2.2.2.2.2.2.2.2.2.1) ?_
      refine wp_geN (tgt := 169) d_Net_comeTo_28 (by decide) (by omega) (by omega) (fun c28 => ?_) (fun c28 => ?_)
      · exfalso; omega
      · refine wp_iconst (v := nI 1) d_Net_comeTo_31 (by decide) ?_
        refine wp_iload d_Net_comeTo_32 0 rfl ?_
        refine wp_ishlN d_Net_comeTo_34 (by omega) (by omega) ?_
        refine wp_istore (lv' := [(8, .int (nI (1 * 2 ^ k))), (7, .int (nI k)), (6, .int (nI (sh 8))), (5, .ref (Γ 1 x)), (0, .ref (Γ 0 0)), (1, .int (nI x)), (2, .ref (Γ 14 (j + 1))), (3, .int (nI set)), (4, .int (cbI by1))]) d_Net_comeTo_35 (by decide) rfl ?_
        refine wp_iload_n d_Net_comeTo_37 rfl 7 rfl ?_
        refine wp_iload d_Net_comeTo_38 0 rfl ?_
        refine wp_iandN d_Net_comeTo_40 ?_
        have han := Nat.and_le_left (n := set) (m := 1 * 2 ^ k)
        refine wp_if_neN (tgt := 47) d_Net_comeTo_41 (by decide) (by omega) (fun c41 => ?_) (fun c41 => ?_)
        · obtain ⟨ad, hadk⟩ := get_of (l := m.2.1) (i := k) (by omega)
          have had : m.2.1.getD k [] = ad := by rw [List.getD_eq_getElem?_getD, hadk]; rfl
          have had8 : ad8 ad := hS.2.2.2 m (List.mem_of_getElem? hm) ad (List.mem_of_getElem? hadk)
          refine wp_aload d_Net_comeTo_47 3 rfl ?_
          refine wp_aload_n d_Net_comeTo_49 rfl 6 rfl ?_
          refine wn_get_Msg d_Net_comeTo_50 ((hR.mg j _ hm).2.1) 1 (by decide) wF_Net_223 rfl ?_
          refine wp_toVR (o := some (Γ 16 (j + 1))) (z := .ref (Γ 16 (j + 1))) ((hR.mg j _ hm).2.2.2.2.1) rfl ?_
          refine wp_iload d_Net_comeTo_53 1 rfl ?_
          refine wn_lld (x := (lN (leN ad))) d_Net_comeTo_55 ((hR.mg j _ hm).2.2.2.2.2.2.2.2.2.2.2.1) (by rw [(hR'.mg j m hm').2.2.2.2.2.2.2.2.2.2.2.2.1]; omega) (by rw [(hR'.mg j m hm').2.2.2.2.2.2.2.2.2.2.2.2.1]; omega) ((hR'.mg j m hm').2.2.2.2.2.2.2.2.2.2.2.2.2.2.2 k ad hadk) ?_
          have hbit : set.testBit k = true := by rcases Bool.eq_false_or_eq_true (set.testBit k) with h | h; (exact h); (exact absurd ((and_pw set k).mpr h) (by omega))
          refine wp_callV (r := 0) d_Net_comeTo_56 (link_V (as := [.long (lN (leN ad))]) (rest := []) (r := (R_Swt, T_Swt, 8)) d_Net_comeTo_56 cal_Swt_entryFor wM_Net_312 rfl (hN_o ((hR.sw x hx).2.1) (by decide)) rfl) cal_Swt_entryFor (c_Swt_entryFor hR' hx (by rw [hrt]; exact hS.2.1) (by rw [hrt]; exact fun e he => okRt_eq hsl (hS.2.2.1 e he)) (ad := ad) had8) (Nat.le_of_ble_eq_true rfl) ⟨Nat.le_of_ble_eq_true rfl, Nat.le_of_ble_eq_true rfl⟩ ?_
          have he8 := eIdx_16 (rt := sRt s' x) (ad := ad) (by rw [hrt]; exact hS.2.1)
          cases hix : eIdx (sRt s' x) ad 16 with
          | none =>
            have he9 : entryOf (sRt s' x) ad = none := by rw [he8, hix]; rfl
            refine wp_astoreN (lv' := [(9, .null), (8, .int (nI (1 * 2 ^ k))), (7, .int (nI k)), (6, .int (nI (sh 8))), (5, .ref (Γ 1 x)), (0, .ref (Γ 0 0)), (1, .int (nI x)), (2, .ref (Γ 14 (j + 1))), (3, .int (nI set)), (4, .int (cbI by1))]) d_Net_comeTo_59 (by decide) rfl ?_
            refine wp_aloadN d_Net_comeTo_61 0 rfl ?_
            refine wp_ifnonnullN d_Net_comeTo_63 ?_
            refine wp_aload d_Net_comeTo_66 4 rfl ?_
            refine wp_dup d_Net_comeTo_68 rfl ?_
            refine wn_get_Swt d_Net_comeTo_69 ((hR.sw x hx).2.1) 6 (by decide) wF_Net_256 rfl ?_
            refine wp_toI (z := (nI (sUn s' x))) ((hR'.sw x hx).2.2.2.2.2.2.2.2.2.2.2.2.2.2.2.1) ?_
            refine wp_iconst (v := nI 1) d_Net_comeTo_72 (by decide) ?_
            refine wp_iaddN d_Net_comeTo_73 ?_
            refine wn_put_Swt (ty := t_Swt 6) (I' := u2 I' 54 (Γ 1 x) (nI ((sUn s' x) + 1))) (R' := R) (L' := L) d_Net_comeTo_74 ((hR.sw x hx).2.1) 6 (by decide) wF_Net_256 rfl (t_Swt_ok 6 (by decide)) rfl rfl sF_54 (oI _ _ _ 54 _) ?_
            refine wp_goto (tgt := 163) d_Net_comeTo_77 (by decide) ?_
            refine wp_iinc (lv' := [(7, .int (nI (k + 1))), (9, .null), (8, .int (nI (1 * 2 ^ k))), (6, .int (nI (sh 8))), (5, .ref (Γ 1 x)), (0, .ref (Γ 0 0)), (1, .int (nI x)), (2, .ref (Γ 14 (j + 1))), (3, .int (nI set)), (4, .int (cbI by1))]) d_Net_comeTo_163 2 rfl (nI_1 _) (by decide) rfl ?_
            refine wp_goto (tgt := 21) d_Net_comeTo_166 (by decide) ?_
            refine wp_lv [0, 3, 4, 5, 6, 7, 8, 9] rfl ?_
            exact ih (k + 1) _ sh _ E' Er' (by omega) (by omega) (hR'.un hx) (hkp.tr (Kp_u (by decide))) (by rw [comeLoop, ← hq, cs_unk hbit had he9]) hE
          | some i =>
            rw [hix] at he8
            cases hei : (sRt s' x)[i]? with
            | none => exact absurd hei (fun z => eIdx_some hix z)
            | some e =>
              obtain ⟨p, mn, ot⟩ := e
              have he9 : entryOf (sRt s' x) ad = some (p, mn, ot) := by rw [he8]; exact hei
              have i16 : i < 16 := by have := (List.getElem?_eq_some_iff.mp hei).1; have h9 := hS.2.1; rw [hrt] at this; omega
              obtain ⟨een0, een⟩ := (hR'.en x hx i i16).2 _ hei
              have eok : okRt s' x (p, mn, ot) := okRt_eq hsl (hS.2.2.1 _ (by rw [← hrt]; exact List.mem_of_getElem? hei))
              cases mn with
              | none =>
                refine wp_astore (lv' := [(9, .ref (Γ 5 (16 * x + i))), (8, .int (nI (1 * 2 ^ k))), (7, .int (nI k)), (6, .int (nI (sh 8))), (5, .ref (Γ 1 x)), (0, .ref (Γ 0 0)), (1, .int (nI x)), (2, .ref (Γ 14 (j + 1))), (3, .int (nI set)), (4, .int (cbI by1))]) d_Net_comeTo_59 (by decide) rfl ?_
                refine wp_aload d_Net_comeTo_61 0 rfl ?_
                refine wp_ifnonnull (tgt := 80) d_Net_comeTo_63 (by decide) ?_
                refine wp_aload d_Net_comeTo_80 0 rfl ?_
                refine wn_get_Ent d_Net_comeTo_82 (een.1) 2 (by decide) wF_Net_316 rfl ?_
                refine wp_toI (z := (-1)) (een.2.2.2.1) ?_
                refine wp_iconst (v := -1) d_Net_comeTo_85 (by decide) ?_
                refine wp_icmp_ne (tgt := 101) d_Net_comeTo_86 (by decide) (fun c => absurd c (by decide)) (fun _ => ?_)
                refine wp_aload d_Net_comeTo_89 4 rfl ?_
                refine wp_aload_n d_Net_comeTo_91 rfl 7 rfl ?_
                refine wp_iload d_Net_comeTo_92 2 rfl ?_
                refine wp_iload_n d_Net_comeTo_94 rfl 6 rfl ?_
                refine wp_callEU (k' := 0) (n' := 0) (r := 0) d_Net_comeTo_95 (link_V (as := [.ref (Γ 14 (j + 1)), .int (nI k), .int (nI x)]) (rest := []) (r := (R_Swt, T_Swt, 8)) d_Net_comeTo_95 cal_Swt_deliver wM_Net_319 rfl (hN_o ((hR.sw x hx).2.1) (by decide)) rfl) cal_Swt_deliver (c_Swt_deliver hR' hm' hx hCF.2.1 (by rw [cntOf_eq hsm]; omega)) (Nat.le_of_ble_eq_true rfl) ⟨Nat.le_of_ble_eq_true rfl, Nat.le_of_ble_eq_true rfl⟩ (fun h' q95 => ?_)
                obtain ⟨I2, Er2, rfl, hR2, kp2⟩ := q95
                refine wp_goto (tgt := 163) d_Net_comeTo_98 (by decide) ?_
                refine wp_iinc (lv' := [(7, .int (nI (k + 1))), (9, .ref (Γ 5 (16 * x + i))), (8, .int (nI (1 * 2 ^ k))), (6, .int (nI (sh 8))), (5, .ref (Γ 1 x)), (0, .ref (Γ 0 0)), (1, .int (nI x)), (2, .ref (Γ 14 (j + 1))), (3, .int (nI set)), (4, .int (cbI by1))]) d_Net_comeTo_163 2 rfl (nI_1 _) (by decide) rfl ?_
                refine wp_goto (tgt := 21) d_Net_comeTo_166 (by decide) ?_
                refine wp_lv [0, 3, 4, 5, 6, 7, 8, 9] rfl ?_
                exact ih (k + 1) _ sh I2 E' Er2 (by omega) (by omega) hR2 (hkp.tr kp2) (by rw [comeLoop, ← hq, cs_del hbit had he9]) hE
              | some jj =>
                have hjj := (eok.2.2.2.1 jj rfl).1
                cases hA : takesB s' (some jj) by1 with
                | true =>
                  refine wp_astore (lv' := [(9, .ref (Γ 5 (16 * x + i))), (8, .int (nI (1 * 2 ^ k))), (7, .int (nI k)), (6, .int (nI (sh 8))), (5, .ref (Γ 1 x)), (0, .ref (Γ 0 0)), (1, .int (nI x)), (2, .ref (Γ 14 (j + 1))), (3, .int (nI set)), (4, .int (cbI by1))]) d_Net_comeTo_59 (by decide) rfl ?_
                  refine wp_aload d_Net_comeTo_61 0 rfl ?_
                  refine wp_ifnonnull (tgt := 80) d_Net_comeTo_63 (by decide) ?_
                  refine wp_aload d_Net_comeTo_80 0 rfl ?_
                  refine wn_get_Ent d_Net_comeTo_82 (een.1) 2 (by decide) wF_Net_316 rfl ?_
                  refine wp_toI (z := (nI jj)) (een.2.2.2.1) ?_
                  refine wp_iconst (v := -1) d_Net_comeTo_85 (by decide) ?_
                  refine wp_icmp_ne (tgt := 101) d_Net_comeTo_86 (by decide) (fun _ => ?_) (fun c => absurd c (nI_m1 (by omega)))
                  refine wp_aload_n d_Net_comeTo_101 rfl 5 rfl ?_
                  refine wp_aload d_Net_comeTo_102 0 rfl ?_
                  refine wn_get_Ent d_Net_comeTo_104 (een.1) 2 (by decide) wF_Net_316 rfl ?_
                  refine wp_toI (z := (nI jj)) (een.2.2.2.1) ?_
                  refine wp_iload d_Net_comeTo_107 9 rfl ?_
                  refine wp_callV (r := 0) d_Net_comeTo_109 (link_V (as := [.int (nI jj), .int (cbI by1)]) (rest := []) (r := (R_Net, T_Net, 7)) d_Net_comeTo_109 cal_Net_isOpen wM_Net_323 rfl (hN_o (hR.nt.1) (by decide)) rfl) cal_Net_isOpen (CallR.eq (c_Net_isOpen hR' (m := (some jj)) (by1 := by1) (fun j9 h9 => by cases h9 <;> omega) hby) (by rw [hA]) rfl) (Nat.le_of_ble_eq_true rfl) ⟨Nat.le_of_ble_eq_true rfl, Nat.le_of_ble_eq_true rfl⟩ ?_
                  refine wp_if_eqB (tgt := 123) d_Net_comeTo_112 (by decide) (fun c => absurd c (by decide)) (fun _ => ?_)
                  refine wp_aload d_Net_comeTo_115 0 rfl ?_
                  refine wn_get_Ent d_Net_comeTo_117 (een.1) 2 (by decide) wF_Net_316 rfl ?_
                  refine wp_toI (z := (nI jj)) (een.2.2.2.1) ?_
                  refine wp_goto (tgt := 128) d_Net_comeTo_120 (by decide) ?_
                  refine wp_istore (lv' := [(10, .int (nI jj)), (9, .ref (Γ 5 (16 * x + i))), (8, .int (nI (1 * 2 ^ k))), (7, .int (nI k)), (6, .int (nI (sh 8))), (5, .ref (Γ 1 x)), (0, .ref (Γ 0 0)), (1, .int (nI x)), (2, .ref (Γ 14 (j + 1))), (3, .int (nI set)), (4, .int (cbI by1))]) d_Net_comeTo_128 (by decide) rfl ?_
                  refine wp_aload_n d_Net_comeTo_130 rfl 6 rfl ?_
                  refine wp_iload d_Net_comeTo_131 0 rfl ?_
                  refine wp_iload d_Net_comeTo_133 10 rfl ?_
                  refine wp_callV (r := 0) d_Net_comeTo_135 (link_V (as := [.int (nI jj), .int (cbI by1)]) (rest := []) (r := (R_Net, T_Net, 7)) d_Net_comeTo_135 cal_Net_isOpen wM_Net_323 rfl (hN_o (hR.nt.1) (by decide)) rfl) cal_Net_isOpen (CallR.eq (c_Net_isOpen hR' (m := (some jj)) (by1 := by1) (fun j9 h9 => by cases h9 <;> omega) hby) (by rw [hA]) rfl) (Nat.le_of_ble_eq_true rfl) ⟨Nat.le_of_ble_eq_true rfl, Nat.le_of_ble_eq_true rfl⟩ ?_
                  refine wp_if_eqB (tgt := 156) d_Net_comeTo_138 (by decide) (fun c => absurd c (by decide)) (fun _ => ?_)
                  refine wp_aload_n d_Net_comeTo_141 rfl 6 rfl ?_
                  refine wn_get_Net d_Net_comeTo_142 (hR.nt.1) 4 (by decide) wF_Net_34 rfl ?_
                  refine wp_toVR (o := some (Γ 0 7)) (z := .ref (Γ 0 7)) (hR.nt.2.2.2.2.2.1) rfl ?_
                  refine wp_iload d_Net_comeTo_145 0 rfl ?_
                  refine wp_dup2 d_Net_comeTo_147 rfl rfl ?_
                  refine wn_ild (x := (nI (sh jj))) d_Net_comeTo_148 (hR.nt.2.2.2.2.2.2.2.2.2.2.2.2.2.2.2.1) (by rw [hR'.nt.2.2.2.2.2.2.2.2.2.2.2.2.2.2.2.2]; omega) (by rw [hR'.nt.2.2.2.2.2.2.2.2.2.2.2.2.2.2.2.2]; omega) (hE jj (by omega)) ?_
                  refine wp_iload d_Net_comeTo_149 2 rfl ?_
                  refine wp_iorN d_Net_comeTo_151 ?_
                  refine wp_toI (z := (nI (sh jj + 2 ^ k))) (congrArg nI (by rw [Nat.one_mul]; exact or_lt (hshk jj))) ?_
                  refine wn_ist d_Net_comeTo_152 (hR.nt.2.2.2.2.2.2.2.2.2.2.2.2.2.2.2.1) (by rw [hR'.nt.2.2.2.2.2.2.2.2.2.2.2.2.2.2.2.2]; omega) (by rw [hR'.nt.2.2.2.2.2.2.2.2.2.2.2.2.2.2.2.2]; omega) ?_
                  refine wp_goto (tgt := 163) d_Net_comeTo_153 (by decide) ?_
                  refine wp_iinc (lv' := [(7, .int (nI (k + 1))), (10, .int (nI jj)), (9, .ref (Γ 5 (16 * x + i))), (8, .int (nI (1 * 2 ^ k))), (6, .int (nI (sh 8))), (5, .ref (Γ 1 x)), (0, .ref (Γ 0 0)), (1, .int (nI x)), (2, .ref (Γ 14 (j + 1))), (3, .int (nI set)), (4, .int (cbI by1))]) d_Net_comeTo_163 3 rfl (nI_1 _) (by decide) rfl ?_
                  refine wp_goto (tgt := 21) d_Net_comeTo_166 (by decide) ?_
                  refine wp_lv [0, 4, 5, 6, 7, 8, 9, 10] rfl ?_
                  (rw [← (show va_up sh jj (sh jj + 2 ^ k) 8 = sh 8 by simp [va_up, show 8 ≠ jj by omega])]; exact ih (k + 1) s' (va_up sh jj (sh jj + 2 ^ k)) I' _ Er' (by omega) (by omega) (hR'.parts (fun q9 hq9 => u2_ne _ _ hq9)) hkp (by rw [comeLoop, ← hq, cs_line hbit had he9, if_pos hA]) (fun l hl => by by_cases hlj : l = jj; (rw [hlj, u2_at, if_pos rfl]; simp [va_up]); (rw [u2_at, if_neg hlj, hE l hl]; simp [va_up, hlj])))
                | false =>
                  cases ot with
                  | none =>
                    have hB : takesB s' none by1 = false := rfl
                    refine wp_astore (lv' := [(9, .ref (Γ 5 (16 * x + i))), (8, .int (nI (1 * 2 ^ k))), (7, .int (nI k)), (6, .int (nI (sh 8))), (5, .ref (Γ 1 x)), (0, .ref (Γ 0 0)), (1, .int (nI x)), (2, .ref (Γ 14 (j + 1))), (3, .int (nI set)), (4, .int (cbI by1))]) d_Net_comeTo_59 (by decide) rfl ?_
                    refine wp_aload d_Net_comeTo_61 0 rfl ?_
                    refine wp_ifnonnull (tgt := 80) d_Net_comeTo_63 (by decide) ?_
                    refine wp_aload d_Net_comeTo_80 0 rfl ?_
                    refine wn_get_Ent d_Net_comeTo_82 (een.1) 2 (by decide) wF_Net_316 rfl ?_
                    refine wp_toI (z := (nI jj)) (een.2.2.2.1) ?_
                    refine wp_iconst (v := -1) d_Net_comeTo_85 (by decide) ?_
                    refine wp_icmp_ne (tgt := 101) d_Net_comeTo_86 (by decide) (fun _ => ?_) (fun c => absurd c (nI_m1 (by omega)))
                    refine wp_aload_n d_Net_comeTo_101 rfl 5 rfl ?_
                    refine wp_aload d_Net_comeTo_102 0 rfl ?_
                    refine wn_get_Ent d_Net_comeTo_104 (een.1) 2 (by decide) wF_Net_316 rfl ?_
                    refine wp_toI (z := (nI jj)) (een.2.2.2.1) ?_
                    refine wp_iload d_Net_comeTo_107 9 rfl ?_
                    refine wp_callV (r := 0) d_Net_comeTo_109 (link_V (as := [.int (nI jj), .int (cbI by1)]) (rest := []) (r := (R_Net, T_Net, 7)) d_Net_comeTo_109 cal_Net_isOpen wM_Net_323 rfl (hN_o (hR.nt.1) (by decide)) rfl) cal_Net_isOpen (CallR.eq (c_Net_isOpen hR' (m := (some jj)) (by1 := by1) (fun j9 h9 => by cases h9 <;> omega) hby) (by rw [hA]) rfl) (Nat.le_of_ble_eq_true rfl) ⟨Nat.le_of_ble_eq_true rfl, Nat.le_of_ble_eq_true rfl⟩ ?_
                    refine wp_if_eqB (tgt := 123) d_Net_comeTo_112 (by decide) (fun _ => ?_) (fun c => absurd c (by decide))
                    refine wp_aload d_Net_comeTo_123 0 rfl ?_
                    refine wn_get_Ent d_Net_comeTo_125 (een.1) 3 (by decide) wF_Net_326 rfl ?_
                    refine wp_toI (z := (-1)) (een.2.2.2.2) ?_
                    refine wp_istore (lv' := [(10, .int (-1)), (9, .ref (Γ 5 (16 * x + i))), (8, .int (nI (1 * 2 ^ k))), (7, .int (nI k)), (6, .int (nI (sh 8))), (5, .ref (Γ 1 x)), (0, .ref (Γ 0 0)), (1, .int (nI x)), (2, .ref (Γ 14 (j + 1))), (3, .int (nI set)), (4, .int (cbI by1))]) d_Net_comeTo_128 (by decide) rfl ?_
                    refine wp_aload_n d_Net_comeTo_130 rfl 6 rfl ?_
                    refine wp_iload d_Net_comeTo_131 0 rfl ?_
                    refine wp_iload d_Net_comeTo_133 10 rfl ?_
                    refine wp_callV (r := 0) d_Net_comeTo_135 (link_V (as := [.int (-1), .int (cbI by1)]) (rest := []) (r := (R_Net, T_Net, 7)) d_Net_comeTo_135 cal_Net_isOpen wM_Net_323 rfl (hN_o (hR.nt.1) (by decide)) rfl) cal_Net_isOpen (CallR.eq (c_Net_isOpen hR' (m := none) (by1 := by1) (fun j9 h9 => by cases h9 <;> omega) hby) (by rw [hB]) rfl) (Nat.le_of_ble_eq_true rfl) ⟨Nat.le_of_ble_eq_true rfl, Nat.le_of_ble_eq_true rfl⟩ ?_
                    refine wp_if_eqB (tgt := 156) d_Net_comeTo_138 (by decide) (fun _ => ?_) (fun c => absurd c (by decide))
                    refine wp_iload d_Net_comeTo_156 4 rfl ?_
                    refine wp_iload d_Net_comeTo_158 2 rfl ?_
                    refine wp_iorN d_Net_comeTo_160 ?_
                    refine wp_toI (z := (nI (sh 8 + 2 ^ k))) (congrArg nI (by rw [Nat.one_mul]; exact or_lt hk8)) ?_
                    refine wp_istore (lv' := [(6, .int (nI (sh 8 + 2 ^ k))), (10, .int (-1)), (9, .ref (Γ 5 (16 * x + i))), (8, .int (nI (1 * 2 ^ k))), (7, .int (nI k)), (5, .ref (Γ 1 x)), (0, .ref (Γ 0 0)), (1, .int (nI x)), (2, .ref (Γ 14 (j + 1))), (3, .int (nI set)), (4, .int (cbI by1))]) d_Net_comeTo_161 (by decide) rfl ?_
                    refine wp_iinc (lv' := [(7, .int (nI (k + 1))), (6, .int (nI (sh 8 + 2 ^ k))), (10, .int (-1)), (9, .ref (Γ 5 (16 * x + i))), (8, .int (nI (1 * 2 ^ k))), (5, .ref (Γ 1 x)), (0, .ref (Γ 0 0)), (1, .int (nI x)), (2, .ref (Γ 14 (j + 1))), (3, .int (nI set)), (4, .int (cbI by1))]) d_Net_comeTo_163 4 rfl (nI_1 _) (by decide) rfl ?_
                    refine wp_goto (tgt := 21) d_Net_comeTo_166 (by decide) ?_
                    refine wp_lv [0, 1, 5, 6, 7, 8, 9, 10] rfl ?_
                    (rw [show sh 8 + 2 ^ k = va_up sh 8 (sh 8 + 2 ^ k) 8 by simp [va_up]]; exact ih (k + 1) s' (va_up sh 8 (sh 8 + 2 ^ k)) I' E' Er' (by omega) (by omega) hR' hkp (by rw [comeLoop, ← hq, cs_line hbit had he9, if_neg (by rw [hA]; decide), if_neg (by rw [hB]; decide)]) (fun l hl => by rw [show va_up sh 8 (sh 8 + 2 ^ k) l = sh l by simp [va_up, show l ≠ 8 by omega]]; exact hE l hl))
                  | some oo =>
                    have hoo := (eok.2.2.2.2 oo rfl).1
                    cases hB : takesB s' (some oo) by1 with
                    | true =>
                      refine wp_astore (lv' := [(9, .ref (Γ 5 (16 * x + i))), (8, .int (nI (1 * 2 ^ k))), (7, .int (nI k)), (6, .int (nI (sh 8))), (5, .ref (Γ 1 x)), (0, .ref (Γ 0 0)), (1, .int (nI x)), (2, .ref (Γ 14 (j + 1))), (3, .int (nI set)), (4, .int (cbI by1))]) d_Net_comeTo_59 (by decide) rfl ?_
                      refine wp_aload d_Net_comeTo_61 0 rfl ?_
                      refine wp_ifnonnull (tgt := 80) d_Net_comeTo_63 (by decide) ?_
                      refine wp_aload d_Net_comeTo_80 0 rfl ?_
                      refine wn_get_Ent d_Net_comeTo_82 (een.1) 2 (by decide) wF_Net_316 rfl ?_
                      refine wp_toI (z := (nI jj)) (een.2.2.2.1) ?_
                      refine wp_iconst (v := -1) d_Net_comeTo_85 (by decide) ?_
                      refine wp_icmp_ne (tgt := 101) d_Net_comeTo_86 (by decide) (fun _ => ?_) (fun c => absurd c (nI_m1 (by omega)))
                      refine wp_aload_n d_Net_comeTo_101 rfl 5 rfl ?_
                      refine wp_aload d_Net_comeTo_102 0 rfl ?_
                      refine wn_get_Ent d_Net_comeTo_104 (een.1) 2 (by decide) wF_Net_316 rfl ?_
                      refine wp_toI (z := (nI jj)) (een.2.2.2.1) ?_
                      refine wp_iload d_Net_comeTo_107 9 rfl ?_
                      refine wp_callV (r := 0) d_Net_comeTo_109 (link_V (as := [.int (nI jj), .int (cbI by1)]) (rest := []) (r := (R_Net, T_Net, 7)) d_Net_comeTo_109 cal_Net_isOpen wM_Net_323 rfl (hN_o (hR.nt.1) (by decide)) rfl) cal_Net_isOpen (CallR.eq (c_Net_isOpen hR' (m := (some jj)) (by1 := by1) (fun j9 h9 => by cases h9 <;> omega) hby) (by rw [hA]) rfl) (Nat.le_of_ble_eq_true rfl) ⟨Nat.le_of_ble_eq_true rfl, Nat.le_of_ble_eq_true rfl⟩ ?_
                      refine wp_if_eqB (tgt := 123) d_Net_comeTo_112 (by decide) (fun _ => ?_) (fun c => absurd c (by decide))
                      refine wp_aload d_Net_comeTo_123 0 rfl ?_
                      refine wn_get_Ent d_Net_comeTo_125 (een.1) 3 (by decide) wF_Net_326 rfl ?_
                      refine wp_toI (z := (nI oo)) (een.2.2.2.2) ?_
                      refine wp_istore (lv' := [(10, .int (nI oo)), (9, .ref (Γ 5 (16 * x + i))), (8, .int (nI (1 * 2 ^ k))), (7, .int (nI k)), (6, .int (nI (sh 8))), (5, .ref (Γ 1 x)), (0, .ref (Γ 0 0)), (1, .int (nI x)), (2, .ref (Γ 14 (j + 1))), (3, .int (nI set)), (4, .int (cbI by1))]) d_Net_comeTo_128 (by decide) rfl ?_
                      refine wp_aload_n d_Net_comeTo_130 rfl 6 rfl ?_
                      refine wp_iload d_Net_comeTo_131 0 rfl ?_
                      refine wp_iload d_Net_comeTo_133 10 rfl ?_
                      refine wp_callV (r := 0) d_Net_comeTo_135 (link_V (as := [.int (nI oo), .int (cbI by1)]) (rest := []) (r := (R_Net, T_Net, 7)) d_Net_comeTo_135 cal_Net_isOpen wM_Net_323 rfl (hN_o (hR.nt.1) (by decide)) rfl) cal_Net_isOpen (CallR.eq (c_Net_isOpen hR' (m := (some oo)) (by1 := by1) (fun j9 h9 => by cases h9 <;> omega) hby) (by rw [hB]) rfl) (Nat.le_of_ble_eq_true rfl) ⟨Nat.le_of_ble_eq_true rfl, Nat.le_of_ble_eq_true rfl⟩ ?_
                      refine wp_if_eqB (tgt := 156) d_Net_comeTo_138 (by decide) (fun c => absurd c (by decide)) (fun _ => ?_)
                      refine wp_aload_n d_Net_comeTo_141 rfl 6 rfl ?_
                      refine wn_get_Net d_Net_comeTo_142 (hR.nt.1) 4 (by decide) wF_Net_34 rfl ?_
                      refine wp_toVR (o := some (Γ 0 7)) (z := .ref (Γ 0 7)) (hR.nt.2.2.2.2.2.1) rfl ?_
                      refine wp_iload d_Net_comeTo_145 0 rfl ?_
                      refine wp_dup2 d_Net_comeTo_147 rfl rfl ?_
                      refine wn_ild (x := (nI (sh oo))) d_Net_comeTo_148 (hR.nt.2.2.2.2.2.2.2.2.2.2.2.2.2.2.2.1) (by rw [hR'.nt.2.2.2.2.2.2.2.2.2.2.2.2.2.2.2.2]; omega) (by rw [hR'.nt.2.2.2.2.2.2.2.2.2.2.2.2.2.2.2.2]; omega) (hE oo (by omega)) ?_
                      refine wp_iload d_Net_comeTo_149 2 rfl ?_
                      refine wp_iorN d_Net_comeTo_151 ?_
                      refine wp_toI (z := (nI (sh oo + 2 ^ k))) (congrArg nI (by rw [Nat.one_mul]; exact or_lt (hshk oo))) ?_
                      refine wn_ist d_Net_comeTo_152 (hR.nt.2.2.2.2.2.2.2.2.2.2.2.2.2.2.2.1) (by rw [hR'.nt.2.2.2.2.2.2.2.2.2.2.2.2.2.2.2.2]; omega) (by rw [hR'.nt.2.2.2.2.2.2.2.2.2.2.2.2.2.2.2.2]; omega) ?_
                      refine wp_goto (tgt := 163) d_Net_comeTo_153 (by decide) ?_
                      refine wp_iinc (lv' := [(7, .int (nI (k + 1))), (10, .int (nI oo)), (9, .ref (Γ 5 (16 * x + i))), (8, .int (nI (1 * 2 ^ k))), (6, .int (nI (sh 8))), (5, .ref (Γ 1 x)), (0, .ref (Γ 0 0)), (1, .int (nI x)), (2, .ref (Γ 14 (j + 1))), (3, .int (nI set)), (4, .int (cbI by1))]) d_Net_comeTo_163 3 rfl (nI_1 _) (by decide) rfl ?_
                      refine wp_goto (tgt := 21) d_Net_comeTo_166 (by decide) ?_
                      refine wp_lv [0, 4, 5, 6, 7, 8, 9, 10] rfl ?_
                      (rw [← (show va_up sh oo (sh oo + 2 ^ k) 8 = sh 8 by simp [va_up, show 8 ≠ oo by omega])]; exact ih (k + 1) s' (va_up sh oo (sh oo + 2 ^ k)) I' _ Er' (by omega) (by omega) (hR'.parts (fun q9 hq9 => u2_ne _ _ hq9)) hkp (by rw [comeLoop, ← hq, cs_line hbit had he9, if_neg (by rw [hA]; decide), if_pos hB]; rfl) (fun l hl => by by_cases hlj : l = oo; (rw [hlj, u2_at, if_pos rfl]; simp [va_up]); (rw [u2_at, if_neg hlj, hE l hl]; simp [va_up, hlj])))
                    | false =>
                      refine wp_astore (lv' := [(9, .ref (Γ 5 (16 * x + i))), (8, .int (nI (1 * 2 ^ k))), (7, .int (nI k)), (6, .int (nI (sh 8))), (5, .ref (Γ 1 x)), (0, .ref (Γ 0 0)), (1, .int (nI x)), (2, .ref (Γ 14 (j + 1))), (3, .int (nI set)), (4, .int (cbI by1))]) d_Net_comeTo_59 (by decide) rfl ?_
                      refine wp_aload d_Net_comeTo_61 0 rfl ?_
                      refine wp_ifnonnull (tgt := 80) d_Net_comeTo_63 (by decide) ?_
                      refine wp_aload d_Net_comeTo_80 0 rfl ?_
                      refine wn_get_Ent d_Net_comeTo_82 (een.1) 2 (by decide) wF_Net_316 rfl ?_
                      refine wp_toI (z := (nI jj)) (een.2.2.2.1) ?_
                      refine wp_iconst (v := -1) d_Net_comeTo_85 (by decide) ?_
                      refine wp_icmp_ne (tgt := 101) d_Net_comeTo_86 (by decide) (fun _ => ?_) (fun c => absurd c (nI_m1 (by omega)))
                      refine wp_aload_n d_Net_comeTo_101 rfl 5 rfl ?_
                      refine wp_aload d_Net_comeTo_102 0 rfl ?_
                      refine wn_get_Ent d_Net_comeTo_104 (een.1) 2 (by decide) wF_Net_316 rfl ?_
                      refine wp_toI (z := (nI jj)) (een.2.2.2.1) ?_
                      refine wp_iload d_Net_comeTo_107 9 rfl ?_
                      refine wp_callV (r := 0) d_Net_comeTo_109 (link_V (as := [.int (nI jj), .int (cbI by1)]) (rest := []) (r := (R_Net, T_Net, 7)) d_Net_comeTo_109 cal_Net_isOpen wM_Net_323 rfl (hN_o (hR.nt.1) (by decide)) rfl) cal_Net_isOpen (CallR.eq (c_Net_isOpen hR' (m := (some jj)) (by1 := by1) (fun j9 h9 => by cases h9 <;> omega) hby) (by rw [hA]) rfl) (Nat.le_of_ble_eq_true rfl) ⟨Nat.le_of_ble_eq_true rfl, Nat.le_of_ble_eq_true rfl⟩ ?_
                      refine wp_if_eqB (tgt := 123) d_Net_comeTo_112 (by decide) (fun _ => ?_) (fun c => absurd c (by decide))
                      refine wp_aload d_Net_comeTo_123 0 rfl ?_
                      refine wn_get_Ent d_Net_comeTo_125 (een.1) 3 (by decide) wF_Net_326 rfl ?_
                      refine wp_toI (z := (nI oo)) (een.2.2.2.2) ?_
                      refine wp_istore (lv' := [(10, .int (nI oo)), (9, .ref (Γ 5 (16 * x + i))), (8, .int (nI (1 * 2 ^ k))), (7, .int (nI k)), (6, .int (nI (sh 8))), (5, .ref (Γ 1 x)), (0, .ref (Γ 0 0)), (1, .int (nI x)), (2, .ref (Γ 14 (j + 1))), (3, .int (nI set)), (4, .int (cbI by1))]) d_Net_comeTo_128 (by decide) rfl ?_
                      refine wp_aload_n d_Net_comeTo_130 rfl 6 rfl ?_
                      refine wp_iload d_Net_comeTo_131 0 rfl ?_
                      refine wp_iload d_Net_comeTo_133 10 rfl ?_
                      refine wp_callV (r := 0) d_Net_comeTo_135 (link_V (as := [.int (nI oo), .int (cbI by1)]) (rest := []) (r := (R_Net, T_Net, 7)) d_Net_comeTo_135 cal_Net_isOpen wM_Net_323 rfl (hN_o (hR.nt.1) (by decide)) rfl) cal_Net_isOpen (CallR.eq (c_Net_isOpen hR' (m := (some oo)) (by1 := by1) (fun j9 h9 => by cases h9 <;> omega) hby) (by rw [hB]) rfl) (Nat.le_of_ble_eq_true rfl) ⟨Nat.le_of_ble_eq_true rfl, Nat.le_of_ble_eq_true rfl⟩ ?_
                      refine wp_if_eqB (tgt := 156) d_Net_comeTo_138 (by decide) (fun _ => ?_) (fun c => absurd c (by decide))
                      refine wp_iload d_Net_comeTo_156 4 rfl ?_
                      refine wp_iload d_Net_comeTo_158 2 rfl ?_
                      refine wp_iorN d_Net_comeTo_160 ?_
                      refine wp_toI (z := (nI (sh 8 + 2 ^ k))) (congrArg nI (by rw [Nat.one_mul]; exact or_lt hk8)) ?_
                      refine wp_istore (lv' := [(6, .int (nI (sh 8 + 2 ^ k))), (10, .int (nI oo)), (9, .ref (Γ 5 (16 * x + i))), (8, .int (nI (1 * 2 ^ k))), (7, .int (nI k)), (5, .ref (Γ 1 x)), (0, .ref (Γ 0 0)), (1, .int (nI x)), (2, .ref (Γ 14 (j + 1))), (3, .int (nI set)), (4, .int (cbI by1))]) d_Net_comeTo_161 (by decide) rfl ?_
                      refine wp_iinc (lv' := [(7, .int (nI (k + 1))), (6, .int (nI (sh 8 + 2 ^ k))), (10, .int (nI oo)), (9, .ref (Γ 5 (16 * x + i))), (8, .int (nI (1 * 2 ^ k))), (5, .ref (Γ 1 x)), (0, .ref (Γ 0 0)), (1, .int (nI x)), (2, .ref (Γ 14 (j + 1))), (3, .int (nI set)), (4, .int (cbI by1))]) d_Net_comeTo_163 4 rfl (nI_1 _) (by decide) rfl ?_
                      refine wp_goto (tgt := 21) d_Net_comeTo_166 (by decide) ?_
                      refine wp_lv [0, 1, 5, 6, 7, 8, 9, 10] rfl ?_
                      (rw [show sh 8 + 2 ^ k = va_up sh 8 (sh 8 + 2 ^ k) 8 by simp [va_up]]; exact ih (k + 1) s' (va_up sh 8 (sh 8 + 2 ^ k)) I' E' Er' (by omega) (by omega) hR' hkp (by rw [comeLoop, ← hq, cs_line hbit had he9, if_neg (by rw [hA]; decide), if_neg (by rw [hB]; decide)]) (fun l hl => by rw [show va_up sh 8 (sh 8 + 2 ^ k) l = sh l by simp [va_up, show l ≠ 8 by omega]]; exact hE l hl))
        · have hbit : set.testBit k = false := (and_pw set k).mp c41
          refine wp_goto (tgt := 163) d_Net_comeTo_44 (by decide) ?_
          refine wp_iinc (lv' := [(7, .int (nI (k + 1))), (8, .int (nI (1 * 2 ^ k))), (6, .int (nI (sh 8))), (5, .ref (Γ 1 x)), (0, .ref (Γ 0 0)), (1, .int (nI x)), (2, .ref (Γ 14 (j + 1))), (3, .int (nI set)), (4, .int (cbI by1))]) d_Net_comeTo_163 1 rfl (nI_1 _) (by decide) rfl ?_
          refine wp_goto (tgt := 21) d_Net_comeTo_166 (by decide) ?_
          refine wp_lv [0, 2, 3, 4, 5, 6, 7, 8] rfl ?_
          exact ih (k + 1) s' sh I' E' Er' (by omega) (by omega) hR' hkp (by rw [comeLoop, ← hq, cs_skip hbit]) hE
  refine wp_aload_n d_Net_comeTo_0 rfl 0 rfl ?_
  refine wp_iload_n d_Net_comeTo_1 rfl 1 rfl ?_
  refine wp_callV (r := 0) d_Net_comeTo_2 (link_V (as := [.int (nI x)]) (rest := []) (r := (R_Net, T_Net, 7)) d_Net_comeTo_2 cal_Net_switchAt wM_Net_39 rfl (hN_o (hR.nt.1) (by decide)) rfl) cal_Net_switchAt (c_Net_switchAt hR hx) (Nat.le_of_ble_eq_true rfl) ⟨Nat.le_of_ble_eq_true rfl, Nat.le_of_ble_eq_true rfl⟩ ?_
  refine wp_astore (lv' := [(5, .ref (Γ 1 x)), (0, .ref (Γ 0 0)), (1, .int (nI x)), (2, .ref (Γ 14 (j + 1))), (3, .int (nI set)), (4, .int (cbI by1))]) d_Net_comeTo_5 (by decide) rfl ?_
  refine wp_aload_n d_Net_comeTo_7 rfl 1 rfl ?_
  refine wn_get_Net d_Net_comeTo_8 (hR.nt.1) 4 (by decide) wF_Net_34 rfl ?_
  refine wp_toVR (o := some (Γ 0 7)) (z := .ref (Γ 0 7)) (hR.nt.2.2.2.2.2.1) rfl ?_
  refine wp_iconst (v := nI 0) d_Net_comeTo_11 (by decide) ?_
  refine wp_callU (r := 0) d_Net_comeTo_12 (link_S (av := [.ref (Γ 0 7), .int (nI 0)]) (rest := []) d_Net_comeTo_12 cal_Arrays_fill wM_Net_306 rfl) cal_Arrays_fill (c_Arrays_fill hR.nt.2.2.2.2.2.2.2.2.2.2.2.2.2.2.2.1 hR.nt.2.2.2.2.2.2.2.2.2.2.2.2.2.2.2.2 (by omega)) (Nat.le_of_ble_eq_true rfl) ⟨Nat.le_of_ble_eq_true rfl, Nat.le_of_ble_eq_true rfl⟩ ?_
  refine wp_iconst (v := nI 0) d_Net_comeTo_15 (by decide) ?_
  refine wp_istore (lv' := [(6, .int (nI 0)), (5, .ref (Γ 1 x)), (0, .ref (Γ 0 0)), (1, .int (nI x)), (2, .ref (Γ 14 (j + 1))), (3, .int (nI set)), (4, .int (cbI by1))]) d_Net_comeTo_16 (by decide) rfl ?_
  refine wp_iconst (v := nI 0) d_Net_comeTo_18 (by decide) ?_
  refine wp_istore (lv' := [(7, .int (nI 0)), (6, .int (nI 0)), (5, .ref (Γ 1 x)), (0, .ref (Γ 0 0)), (1, .int (nI x)), (2, .ref (Γ 14 (j + 1))), (3, .int (nI set)), (4, .int (cbI by1))]) d_Net_comeTo_19 (by decide) rfl ?_
  exact L2 m.2.1.length 0 s (fun _ => 0) I _ Er (by omega) (by omega) (hR.parts (fun q hq => by funext i; unfold fil; rw [if_neg (fun z => hq z.1)])) Kp_0 rfl (fun l hl => by unfold fil; rw [if_pos ⟨rfl, by omega⟩])
end Cls23
