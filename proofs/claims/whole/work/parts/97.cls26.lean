section Cls26
theorem comesS_e {s : Sa} {x m set by1 : Nat} (hC : CI s) (hm : 1 ≤ m ∧ m ≤ (sMs s).length) : ∃ e, sCp (comesS s x m set by1) = sCp s ++ e ∧ ∀ c ∈ e, c.1 < 16 ∨ c.1 = 16 + x := by
  have hcf := CF_loop (x := x) (by1 := by1) (set := set) (as := ((sMs s).getD (m - 1) (0, [], 0, 0)).2.1) hC hm _ (Nat.le_refl (cntOf s m))
  have hsc : sCp (comeLoop x m by1 ((sMs s).getD (m - 1) (0, [], 0, 0)).2.1 set (cntOf s m) (s, fun _ => 0)).1 = sCp s := hcf.1.2.2.2.1
  unfold comesS
  dsimp only
  refine ⟨_, by show _ ++ _ ++ _ = _; rw [List.append_assoc]; congr 1, fun c hc => ?_⟩
  rcases List.mem_append.mp hc with hc | hc
  · obtain ⟨l, hl, -, rfl⟩ := share_mem hc
    exact Or.inl (Nat.lt_of_le_of_lt (Nat.add_le_add_left (side_le _ l x) _) (by omega))
  · split at hc
    · cases hc
    · rw [List.mem_singleton.mp hc]
      exact Or.inr rfl
theorem comesS_hl {s : Sa} {x m set by1 : Nat} (hC : CI s) (hm : 1 ≤ m ∧ m ≤ (sMs s).length) : (∃ new, hlF (comesS s x m set by1) x = hlF s x ++ new) ∧ ∀ y, y ≠ x → hlF (comesS s x m set by1) y = hlF s y := by
  obtain ⟨e, he, hw⟩ := comesS_e (x := x) (set := set) (by1 := by1) hC hm
  have h1 : ∀ y, hlF (comesS s x m set by1) y = hlF s y ++ e.filter (fun c => c.1 == 16 + y) := fun y => by
    unfold hlF
    rw [he, List.filter_append]
  refine ⟨⟨_, h1 x⟩, fun y hy => ?_⟩
  rw [h1 y, List.filter_eq_nil_iff.mpr (fun c hc => by have := hw c hc; simp; omega), List.append_nil]
theorem held_at {s : Sa} {x : Nat} {c : Cy} {rest : List Cy} (h : hlF s x = c :: rest) : ∃ i, (sCp s).findIdx? (fun c => c.1 == 16 + x) = some i ∧ (sCp s)[i]? = some c ∧ c.1 = 16 + x ∧ (sCp s).getD i (0, 0, 0, 0) = c ∧ hlF (wCp s ((sCp s).eraseIdx i)) x = rest ∧ (∀ y, y ≠ x → hlF (wCp s ((sCp s).eraseIdx i)) y = hlF s y) ∧ ∀ c2 p2, c2 < 16 → quF (wCp s ((sCp s).eraseIdx i)) c2 p2 = quF s c2 p2 := by
  obtain ⟨i, hi⟩ := find_some (l := sCp s) (p := fun c => c.1 == 16 + x) (by rw [List.countP_eq_length_filter]; unfold hlF at h; rw [h]; simp)
  obtain ⟨c0, g1, g2, g3, g4⟩ := findIdx_get hi
  have h1 : hlF s x = c0 :: hlF (wCp s ((sCp s).eraseIdx i)) x := flt_first g1 g2 g4
  rw [h, List.cons.injEq] at h1
  obtain ⟨rfl, h2⟩ := h1
  have hw : c.1 = 16 + x := beq_iff_eq.mp g2
  exact ⟨i, hi, g1, hw, g3, h2.symm, fun y hy => flt_erase g1 (by simp; omega), fun c2 p2 hc2 => flt_erase g1 (by simp; omega)⟩
theorem phiCp_cons (c : Cy) (l : List Cy) : phiCp (c :: l) = pc7 c.2.2.1 + phiCp l := by simp [phiCp]
theorem release_s {s : Sa} {x n i : Nat} {c : Cy} (hi : (sCp s).findIdx? (fun c => c.1 == 16 + x) = some i) (hc : (sCp s).getD i (0, 0, 0, 0) = c) : releaseN x (n + 1) s = releaseN x n (comesS (wCp s ((sCp s).eraseIdx i)) x c.2.1 c.2.2.1 c.2.2.2) := by
  rw [releaseN_s, hi]
  dsimp only
  rw [hc]
theorem len_phi : ∀ {l : List Cy}, (∀ c ∈ l, 0 < c.2.2.1) → (∀ c ∈ l, c.2.2.1 < 2 ^ 7) → l.length ≤ phiCp l
  | [], _, _ => Nat.zero_le _
  | c :: l, h, h2 => by
    have h1 := len_phi (l := l) (fun z hz => h z (List.mem_cons_of_mem _ hz)) (fun z hz => h2 z (List.mem_cons_of_mem _ hz))
    have h3 := pc7_pos (h2 c List.mem_cons_self) (h c List.mem_cons_self)
    rw [phiCp_cons, List.length_cons]
    omega
set_option maxRecDepth 20000 in
theorem c_Net_takeHeld {G : Gt} {K N : Nat → Nat} {I : Nat → Nat → Int32} {R : Nat → Nat → Option Nat} {L : Nat → Nat → Int64} {E : Nat → Nat → Int32} {El : Nat → Nat → Int64} {Er : Nat → Nat → Option Nat} {Γ : Gm} {ρ : Nat → Nat} {s : Sa} (hR : RepN Γ ρ K N I R L E El Er s) {n0 x : Nat} (hV : Inv n0 s) (hx : x < 6) : CallE G m_Net_takeHeld 4 69 [.ref (Γ 0 0), .int (nI x)] (hN K N I R L E El Er) (0 + phiCp (hlF s x)) (0 + 4 * phiCp (hlF s x)) none (NetK Γ (releaseS s x) K I R) := by
  refine CallS.of (Nat.le_of_ble_eq_true rfl) ?_
  have hlen : (hlF s x).length ≤ 7 * 200 := by
    have h1 := hV.2.2.2
    have h2 := hV.2.1.2.2.2.2.2.2.1
    have h3 : (hlF s x).length ≤ phiCp (sCp s) := by
      refine Nat.le_trans (List.length_filter_le _ _) ?_
      exact len_phi (fun c hc => (hV.2.2.1.2.2.1 c hc).2.2.2.1) (fun c hc => Nat.lt_of_lt_of_le (hV.2.2.1.2.2.1 c hc).2.2.1.2.2 (Nat.pow_le_pow_right (by decide) (cnt_7 hV.B.CI.2.2.1 _)))
    have h4 : phiCp (sCp s) ≤ phi s := by unfold phi; omega
    omega
  have L2 : ∀ (f n : Nat) (rem new : List Cy) (s' : Sa) (ρ' K' N' : Nat → Nat) (I' : Nat → Nat → Int32) (R' : Nat → Nat → Option Nat) (L' : Nat → Nat → Int64) (E' : Nat → Nat → Int32) (El' : Nat → Nat → Int64) (Er' : Nat → Nat → Option Nat), rem.length = f → f + n = (hlF s x).length → n ≤ (hlF s x).length → hlF s' x = rem ++ new → Inv n0 s' → RepN Γ ρ' K' N' I' R' L' E' El' Er' s' → Kp K I R K' I' R' → releaseN x f s' = releaseS s x → WP G m_Net_takeHeld (4, 69, (0 + phiCp (hlF s x)), (0 + 4 * phiCp (hlF s x)), (hN K N I R L E El Er), fun r9 h9 => r9 = .inl none ∧ (NetK Γ (releaseS s x) K I R) h9) 17 [(4, .int (nI n)), (3, .int (nI ((hlF s x).length))), (2, .ref (Γ 4 x)), (0, .ref (Γ 0 0)), (1, .int (nI x))] [] (hN K' N' I' R' L' E' El' Er') (0 + phiCp rem) (0 + 4 * phiCp rem) := by
    intro f
    induction f with
    | zero =>
      intro n rem new s' ρ' K' N' I' R' L' E' El' Er' hf hfn hn hrem hV' hR' hkp htg
      refine wp_iload d_Net_takeHeld_17 0 rfl ?_
      refine wp_iload_n d_Net_takeHeld_19 rfl 1 rfl ?_
      refine wp_geN (tgt := 60) d_Net_takeHeld_20 (by decide) (by omega) (by omega) (fun _ => ?_) (fun c => absurd c (by omega))
      exact wp_vret d_Net_takeHeld_60 rfl ⟨rfl, ρ', K', N', I', R', L', E', El', Er', rfl, by rw [← htg]; exact hR', hkp⟩
    | succ f ih =>
      intro n rem0 new s' ρ' K' N' I' R' L' E' El' Er' hf hfn hn hrem hV' hR' hkp htg
      obtain ⟨c, rem, rfl⟩ : ∃ c r, rem0 = c :: r := by cases rem0 with | nil => cases hf | cons c r => exact ⟨c, r, rfl⟩
      have hf : rem.length = f := by simpa using hf
      refine wp_iload d_Net_takeHeld_17 0 rfl ?_
      refine wp_iload_n d_Net_takeHeld_19 rfl 1 rfl ?_
      refine wp_geN (tgt := 60) d_Net_takeHeld_20 (by decide) (by omega) (by omega) (fun c20 => ?_) (fun c20 => ?_)
      · exfalso; omega
      · obtain ⟨i, i1, i2, i3, i4, i5, i6, i7⟩ := held_at (show hlF s' x = c :: (rem ++ new) from hrem)
        have hq9 := (hR'.hl x hx).2
        rw [show hlF s' x = c :: (rem ++ new) from hrem] at hq9
        obtain ⟨a, xs, ka, ca, hxs, hat⟩ := hq9.take (G := G) (N := N') (L := L') (E := E') (El := El') (Er := Er')
        rw [← i5] at hat
        have okc := hV'.2.2.1.2.2.1 c (List.mem_of_getElem? i2)
        obtain ⟨j, hj⟩ : ∃ j, c.2.1 = j + 1 := ⟨c.2.1 - 1, by have := okc.2.2.1.1; omega⟩
        obtain ⟨m, hm⟩ := get_of (l := sMs s') (i := j) (by have := okc.2.2.1.2.1; omega)
        have hset : c.2.2.1 < 2 ^ 7 := Nat.lt_of_lt_of_le okc.2.2.1.2.2 (Nat.pow_le_pow_right (by decide) (cnt_7 hV'.B.CI.2.2.1 _))
        have hB := erase_B (i := i) hV'.B
        have hV2 := comes_again hV' hx i2
        refine wp_bud (k' := 0 + phiCp rem + pc7 c.2.2.1) (n' := 0 + 4 * phiCp rem + 4 * pc7 c.2.2.1) (by rw [phiCp_cons]; omega) (by rw [phiCp_cons]; omega) ?_
        refine wp_aload_n d_Net_takeHeld_23 rfl 2 rfl ?_
        refine wp_callEV (k' := 0) (n' := 0) (r := 0) d_Net_takeHeld_24 (link_V (as := []) (rest := []) (r := (R_Lst, T_Lst, 3)) d_Net_takeHeld_24 cal_Lst_takeFirst wM_Net_345 rfl (hN_o ((hR'.hl x hx).2.kl) (by decide)) rfl) cal_Lst_takeFirst (hat) (Nat.le_of_ble_eq_true rfl) ⟨Nat.le_of_ble_eq_true rfl, Nat.le_of_ble_eq_true rfl⟩ (fun h' q24 => ?_)
        obtain ⟨I2, R2, rfl, l1, l2, l3⟩ := q24
        have hR2 : RepN Γ ρ' K' N' I2 R2 L' E' El' Er' (wCp s' ((sCp s').eraseIdx i)) := hR'.hl1 hx hxs l1 l2 l3 (fun y hy hne => i6 y hne) (fun c2 p2 hc2 _ => i7 c2 p2 hc2)
        have kp1 : Kp K' I' R' K' I2 R2 := Kp_l l1 l2
        have ka0 := kp1 a (by omega)
        refine wp_astore (lv' := [(5, .ref a), (4, .int (nI n)), (3, .int (nI ((hlF s x).length))), (2, .ref (Γ 4 x)), (0, .ref (Γ 0 0)), (1, .int (nI x))]) d_Net_takeHeld_27 (by decide) rfl ?_
        refine wp_aload d_Net_takeHeld_29 0 rfl ?_
        refine wp_ifnull d_Net_takeHeld_31 ?_
        refine wp_aload_n d_Net_takeHeld_34 rfl 4 rfl ?_
        refine wp_iload_n d_Net_takeHeld_35 rfl 5 rfl ?_
        refine wp_aload d_Net_takeHeld_36 0 rfl ?_
        refine wn_get_Cpy d_Net_takeHeld_38 (ka) 0 (by decide) wF_Net_292 rfl ?_
        refine wp_toVR (o := some (Γ 14 (j + 1))) (z := .ref (Γ 14 (j + 1))) (((ka0.2.1).trans ca.1).trans (by rw [hj])) rfl ?_
        refine wp_aload d_Net_takeHeld_41 0 rfl ?_
        refine wn_get_Cpy d_Net_takeHeld_43 (ka) 1 (by decide) wF_Net_298 rfl ?_
        refine wp_toI (z := (nI (c.2.2.1))) ((ka0.2.2.2.1).trans ca.2.1) ?_
        refine wp_aload d_Net_takeHeld_46 0 rfl ?_
        refine wn_get_Cpy d_Net_takeHeld_48 (ka) 2 (by decide) wF_Net_348 rfl ?_
        refine wp_toI (z := (cbI c.2.2.2)) ((ka0.2.2.2.2.1).trans ca.2.2) ?_
        refine wp_callEU (k' := (pc7 c.2.2.1)) (n' := (4 * pc7 c.2.2.1)) (r := 0) d_Net_takeHeld_51 (link_V (as := [.int (nI x), .ref (Γ 14 (j + 1)), .int (nI (c.2.2.1)), .int (cbI c.2.2.2)]) (rest := []) (r := (R_Net, T_Net, 7)) d_Net_takeHeld_51 cal_Net_comeTo wM_Net_123 rfl (hN_o (hR'.nt.1) (by decide)) rfl) cal_Net_comeTo (c_Net_comeTo hR2 hm hB.CI (hB.CS x) hx hset (by have := okc.2.2.2.2; omega) (show prioOf (wCp s' ((sCp s').eraseIdx i)) (j + 1) < 5 by rw [mg_at hR2 hm]; exact (hV'.ms (List.mem_of_getElem? hm)).1)) (Nat.le_of_ble_eq_true rfl) ⟨Nat.le_of_ble_eq_true rfl, Nat.le_of_ble_eq_true rfl⟩ (fun h' q51 => ?_)
        obtain ⟨ρ3, K3, N3, I3, R3, L3, E3, El3, Er3, rfl, hR3, kp3⟩ := q51
        refine wp_iinc (lv' := [(4, .int (nI (n + 1))), (5, .ref a), (3, .int (nI ((hlF s x).length))), (2, .ref (Γ 4 x)), (0, .ref (Γ 0 0)), (1, .int (nI x))]) d_Net_takeHeld_54 1 rfl (nI_1 _) (by decide) rfl ?_
        refine wp_goto (tgt := 17) d_Net_takeHeld_57 (by decide) ?_
        refine wp_lv [0, 2, 3, 4, 5] rfl ?_
        exact (comesS_hl (x := x) (m := j + 1) (set := c.2.2.1) (by1 := c.2.2.2) hB.CI (by rw [← hj]; exact ⟨okc.2.2.1.1, okc.2.2.1.2.1⟩)).1.elim (fun nw hnw => ih (n + 1) rem (new ++ nw) _ ρ3 K3 N3 I3 R3 L3 E3 El3 Er3 (by omega) (by omega) (by omega) (by rw [hnw, i5, List.append_assoc]) (by rw [← hj]; exact hV2) hR3 ((hkp.tr kp1).tr kp3) (by rw [← hj, ← release_s i1 i4]; exact htg))
  refine wp_aload_n d_Net_takeHeld_0 rfl 0 rfl ?_
  refine wp_iload_n d_Net_takeHeld_1 rfl 1 rfl ?_
  refine wp_callV (r := 0) d_Net_takeHeld_2 (link_V (as := [.int (nI x)]) (rest := []) (r := (R_Net, T_Net, 7)) d_Net_takeHeld_2 cal_Net_switchAt wM_Net_39 rfl (hN_o (hR.nt.1) (by decide)) rfl) cal_Net_switchAt (c_Net_switchAt hR hx) (Nat.le_of_ble_eq_true rfl) ⟨Nat.le_of_ble_eq_true rfl, Nat.le_of_ble_eq_true rfl⟩ ?_
  refine wn_get_Swt d_Net_takeHeld_5 ((hR.sw x hx).2.1) 2 (by decide) wF_Net_262 rfl ?_
  refine wp_toVR (o := some (Γ 4 x)) (z := .ref (Γ 4 x)) ((hR.sw x hx).2.2.2.2.2.1) rfl ?_
  refine wp_astore_n (lv' := [(2, .ref (Γ 4 x)), (0, .ref (Γ 0 0)), (1, .int (nI x))]) d_Net_takeHeld_8 rfl (by decide) rfl ?_
  refine wp_aload_n d_Net_takeHeld_9 rfl 0 rfl ?_
  refine wn_get_Lst d_Net_takeHeld_10 ((hR.hl x hx).2.kl) 2 (by decide) wF_Net_236 rfl ?_
  refine wp_toI (z := (nI ((hlF s x).length))) (((hl_n (hR.hl x hx).2).2).trans (by rw [List.countP_eq_length_filter]; rfl)) ?_
  refine wp_istore_n (lv' := [(3, .int (nI ((hlF s x).length))), (2, .ref (Γ 4 x)), (0, .ref (Γ 0 0)), (1, .int (nI x))]) d_Net_takeHeld_13 rfl (by decide) rfl ?_
  refine wp_iconst (v := nI 0) d_Net_takeHeld_14 (by decide) ?_
  refine wp_istore (lv' := [(4, .int (nI 0)), (3, .int (nI ((hlF s x).length))), (2, .ref (Γ 4 x)), (0, .ref (Γ 0 0)), (1, .int (nI x))]) d_Net_takeHeld_15 (by decide) rfl ?_
  exact L2 (hlF s x).length 0 (hlF s x) [] s ρ K N I R L E El Er rfl (by omega) (by omega) (by rw [List.append_nil]) hV hR Kp_0 (by unfold releaseS; rw [List.countP_eq_length_filter]; rfl)
end Cls26
